/** Promises 12 to 18. */
final class StockTest {
    private static final Checks CHECKS = new Checks("StockTest");

    public static void main(String[] args) {
        cut();
        cutUpToTheLimit();
        stockOf();
        basePrices();
        presentPrices();
        weights();
        CHECKS.close();
    }

    private static void cut() {
        AnagramButcher shop = Checks.shop("dog");
        CHECKS.equal("cut of a word that is not in the dictionary", 6, shop.cut(Checks.word("banana"), 1));
        CHECKS.equal("stockOf a", 3, shop.stockOf(Checks.letter('a')));
        CHECKS.equal("stockOf b", 1, shop.stockOf(Checks.letter('b')));
        CHECKS.equal("stockOf n", 2, shop.stockOf(Checks.letter('n')));
        CHECKS.equal("cut of 50 copies", 156, shop.cut(Checks.word("dog"), 50));
        CHECKS.equal("stockOf g", 50, shop.stockOf(Checks.letter('g')));
        CHECKS.equal("cut of a word that lies there", 162, shop.cut(Checks.word("nab"), 2));
        CHECKS.equal("stockOf a then", 5, shop.stockOf(Checks.letter('a')));
        CHECKS.equal("totalStock", 162, shop.totalStock());
        CHECKS.equal("wordCount after cuts", 1, shop.wordCount());
        CHECKS.notAWord("cut", shop, number -> shop.cut(number, 1));
        CHECKS.notAWord("cut of wrong copies", shop, number -> shop.cut(number, 0));
        CHECKS.outOfRange("cut", 1, 50, shop, copies -> shop.cut(1, copies));
    }

    private static void cutUpToTheLimit() {
        AnagramButcher shop = new AnagramButcher();
        long twelve = Checks.word("eeeeeeeeeeee");
        shop.cut(twelve, 50);
        CHECKS.refused("cut to 1200", IllegalStateException.class, shop, () -> shop.cut(twelve, 50));
        CHECKS.equal("cut to 984", 984, shop.cut(twelve, 32));
        CHECKS.refused("cut to 1000", IllegalStateException.class, shop, () -> shop.cut(Checks.word("ee"), 8));
        CHECKS.equal("cut to 999", 999, shop.cut(Checks.word("eee"), 5));
        CHECKS.refused("cut of one more", IllegalStateException.class, shop, () -> shop.cut(5, 1));
        CHECKS.refused("cut with another letter", IllegalStateException.class, shop,
                () -> shop.cut(Checks.word("abcdef"), 1));
        CHECKS.outOfRange("cut with no room", 1, 50, shop, copies -> shop.cut(5, copies));
        CHECKS.equal("cut of other letters", 1001, shop.cut(Checks.word("az"), 1));
        for (int i = 0; i < 19; i++) {
            shop.cut(26, 50);
        }
        CHECKS.equal("cut of z to 999", 1999, shop.cut(26, 48));
        CHECKS.refused("cut of z to 1000", IllegalStateException.class, shop, () -> shop.cut(26, 1));
    }

    private static void stockOf() {
        AnagramButcher shop = new AnagramButcher();
        shop.cut(Checks.word("abcdefghijkl"), 1);
        shop.cut(Checks.word("mnopqrstuvwx"), 2);
        shop.cut(Checks.word("yz"), 3);
        CHECKS.equal("totalStock", 42, shop.totalStock());
        for (int letter = 1; letter <= 26; letter++) {
            CHECKS.equal("stockOf " + letter, letter <= 12 ? 1 : letter <= 24 ? 2 : 3, shop.stockOf(letter));
        }
        CHECKS.outOfRange("stockOf", 1, 26, shop, shop::stockOf);
    }

    private static void basePrices() {
        AnagramButcher shop = new AnagramButcher();
        for (int letter = 1; letter <= 26; letter++) {
            CHECKS.equal("basePriceOf " + letter, firstPrice(letter), shop.basePriceOf(letter));
        }
        CHECKS.equal("setBasePrice of a to 1", 40, shop.setBasePrice(1, 1));
        CHECKS.equal("setBasePrice of a to 999", 1, shop.setBasePrice(1, 999));
        CHECKS.equal("setBasePrice of z", 90, shop.setBasePrice(26, 17));
        CHECKS.equal("basePriceOf a", 999, shop.basePriceOf(1));
        CHECKS.equal("basePriceOf b", 60, shop.basePriceOf(2));
        CHECKS.equal("basePriceOf z", 17, shop.basePriceOf(26));
        CHECKS.equal("basePriceOf a in another shop", 40, new AnagramButcher().basePriceOf(1));
        CHECKS.outOfRange("setBasePrice", 1, 26, shop, letter -> shop.setBasePrice(letter, 5));
        CHECKS.outOfRange("setBasePrice to", 1, 999, shop, pence -> shop.setBasePrice(5, pence));
        CHECKS.outOfRange("basePriceOf", 1, 26, shop, shop::basePriceOf);
    }

    private static int firstPrice(int letter) {
        String prices = "46664666496666469666466969";
        return 10 * (prices.charAt(letter - 1) - '0');
    }

    private static void presentPrices() {
        AnagramButcher shop = new AnagramButcher();
        shop.setBasePrice(2, 999);
        shop.setBasePrice(3, 1);
        int[] dueForA = {80, 76, 72, 68, 64, 60, 56, 52, 48, 44, 40, 40, 40};
        int[] dueForB = {1998, 1898, 1798, 1698, 1598, 1498, 1398, 1298, 1198, 1098, 999, 999, 999};
        int[] dueForC = {2, 1, 1, 1, 1, 1, 1, 1, 1, 1, 1, 1, 1};
        for (int pieces = 0; pieces < dueForA.length; pieces++) {
            CHECKS.equal("presentPriceOf a with " + pieces, dueForA[pieces], shop.presentPriceOf(1));
            CHECKS.equal("presentPriceOf b with " + pieces, dueForB[pieces], shop.presentPriceOf(2));
            CHECKS.equal("presentPriceOf c with " + pieces, dueForC[pieces], shop.presentPriceOf(3));
            shop.cut(Checks.word("abc"), 1);
        }
        CHECKS.equal("presentPriceOf z", 180, shop.presentPriceOf(26));
        CHECKS.equal("basePriceOf b then", 999, shop.basePriceOf(2));
        CHECKS.outOfRange("presentPriceOf", 1, 26, shop, shop::presentPriceOf);
    }

    private static void weights() {
        AnagramButcher shop = new AnagramButcher();
        String ounces = "23332333233353233333235333";
        for (int letter = 1; letter <= 26; letter++) {
            CHECKS.equal("weightOf " + letter, ounces.charAt(letter - 1) - '0', shop.weightOf(letter));
        }
        CHECKS.equal("weightOf mawmaw", 24, shop.weightOf(Checks.word("mawmaw")));
        CHECKS.equal("weightOf twelve w", 60, shop.weightOf(Checks.word("wwwwwwwwwwww")));
        CHECKS.equal("weightOf banana", 15, shop.weightOf(Checks.word("banana")));
        CHECKS.notAWord("weightOf", shop, shop::weightOf);
    }
}
