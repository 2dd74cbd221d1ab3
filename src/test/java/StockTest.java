/** Promises 12 to 18, sentence by sentence. */
final class StockTest {
    private static final Checks CHECKS = new Checks("StockTest");
    private static final int MOST = 99999;

    public static void main(String[] args) {
        CHECKS.promise(12, "Returns the number of pieces of all letters in stock afterwards", StockTest::cut);
        CHECKS.promise(12, "a word, which need not be in the dictionary", StockTest::cutOfAnyWord);
        CHECKS.promise(12, "copies: 1 to 50", StockTest::cutCopies);
        CHECKS.promise(12, "IllegalArgumentException if it is not a word", StockTest::cutNotAWord);
        CHECKS.promise(12, "if copies is out of range", StockTest::cutCopiesOutOfRange);
        CHECKS.promise(12, "IllegalStateException if there would be more than 999 pieces of a letter",
                StockTest::cutUpToTheLimit);
        CHECKS.promise(12, "more than 999 pieces of a letter, the first, the last, or one of several",
                StockTest::cutOverTheLimitOfOneLetter);
        CHECKS.promise(12, "the exception that is listed first", StockTest::cutWrongInTwoWays);

        CHECKS.promise(13, "Returns the number of pieces in stock", StockTest::stockOf);
        CHECKS.promise(13, "IllegalArgumentException if letter is out of range", StockTest::stockOfOutOfRange);

        CHECKS.promise(14, "Returns the number of pieces of all letters in stock", StockTest::totalStock);
        CHECKS.promise(14, "all letters in stock, each 0 to 999", StockTest::totalOfAFullStock);

        CHECKS.promise(15, "Returns the base price before", StockTest::setBasePrice);
        CHECKS.promise(15, "letter: 1 to 26, pence: 1 to 999", StockTest::setBasePriceUpToTheLimits);
        CHECKS.promise(15, "IllegalArgumentException if letter is out of range", StockTest::setBasePriceWrongLetter);
        CHECKS.promise(15, "IllegalArgumentException if pence is out of range", StockTest::setBasePriceWrongPence);

        CHECKS.promise(16, "at first 40 for vowels, 90 for j, q, x and z, and 60 for the others",
                StockTest::firstBasePrices);
        CHECKS.promise(16, "Returns the base price", StockTest::basePriceOf);
        CHECKS.promise(16, "IllegalArgumentException if letter is out of range", StockTest::basePriceOfOutOfRange);

        CHECKS.promise(17, "10 minus the number of pieces in stock, but not less than 0", StockTest::scarcity);
        CHECKS.promise(17, "multiplied by the scarcity and divided by 10, rounded down", StockTest::roundedPrice);
        CHECKS.promise(17, "the present price of each letter", StockTest::presentPrices);
        CHECKS.promise(17, "IllegalArgumentException if letter is out of range", StockTest::presentPriceOutOfRange);

        CHECKS.promise(18, "2 ounces if it is a vowel, 5 ounces if it is m or w, and 3 ounces otherwise",
                StockTest::weightOfLetters);
        CHECKS.promise(18, "Returns its weight in ounces", StockTest::weightOfWords);
        CHECKS.promise(18, "IllegalArgumentException if it is not a word", StockTest::weightOfNotAWord);
        CHECKS.close();
    }

    // ---- Promise 12

    private static void cut() {
        AnagramButcher shop = new AnagramButcher();
        CHECKS.equal("cut of one piece", 1, shop.cut(1, 1));
        CHECKS.equal("cut of banana", 7, shop.cut(Checks.word("banana"), 1));
        CHECKS.equal("cut of three z", 10, shop.cut(26, 3));
        CHECKS.equal("stockOf a", 4, shop.stockOf(1));
        CHECKS.equal("stockOf b", 1, shop.stockOf(2));
        CHECKS.equal("stockOf n", 2, shop.stockOf(14));
        CHECKS.equal("stockOf z", 3, shop.stockOf(26));
        CHECKS.equal("stockOf c", 0, shop.stockOf(3));
        CHECKS.equal("cut of the most pieces", 610, shop.cut(Checks.word("cccccccccccc"), 50));
        CHECKS.equal("cameIn of c", 600, shop.cameIn(3));
        CHECKS.equal("cameIn of a", 4, shop.cameIn(1));
    }

    private static void cutOfAnyWord() {
        AnagramButcher shop = Checks.shop("dog");
        CHECKS.equal("cut of a word that is in the dictionary", 3, shop.cut(Checks.word("dog"), 1));
        CHECKS.equal("cut of a word that is not in it", 6, shop.cut(Checks.word("cat"), 1));
        CHECKS.equal("wordCount afterwards", 1, shop.wordCount());
        CHECKS.equal("receiptCount afterwards", 0, shop.receiptCount());
        CHECKS.equal("takings afterwards", 0, shop.takings());
    }

    private static void cutCopies() {
        AnagramButcher shop = new AnagramButcher();
        CHECKS.equal("cut of 1 copy", 2, shop.cut(Checks.word("ab"), 1));
        CHECKS.equal("cut of 50 copies", 102, shop.cut(Checks.word("ab"), 50));
        CHECKS.equal("stockOf b", 51, shop.stockOf(2));
    }

    private static void cutNotAWord() {
        CHECKS.notAWord("cut", StockTest::someStock, (shop, number) -> shop.cut(number, 1));
        CHECKS.aWord("cut", StockTest::someStock, (shop, number) -> shop.cut(number, 1));
    }

    private static AnagramButcher someStock() {
        AnagramButcher shop = Checks.shop("cat");
        shop.cut(Checks.word("cattz"), 2);
        return shop;
    }

    private static void cutCopiesOutOfRange() {
        CHECKS.outOfRange("cut of copies", 1, 50, StockTest::someStock, (shop, copies) -> shop.cut(1, copies));
        // 12 of these copies have, as a wrapped number of pieces, less than 12 or 999.
        for (int copies : new int[] {357913942, 1431655766, -357913941}) {
            CHECKS.refused("cut of copies " + copies, IllegalArgumentException.class, StockTest::someStock,
                    shop -> shop.cut(Checks.word("aaaaaaaaaaaa"), copies));
        }
    }

    private static AnagramButcher stocked(char letter, int pieces) {
        AnagramButcher shop = Checks.shop("cat");
        Checks.bring(shop, letter, pieces);
        return shop;
    }

    private static void cutUpToTheLimit() {
        CHECKS.equal("cut of 1 to 998", 999, stocked('e', 998).cut(5, 1));
        CHECKS.refused("cut of 1 to 999", IllegalStateException.class, () -> stocked('e', 999), s -> s.cut(5, 1));
        CHECKS.equal("cut of 49 to 950", 999, stocked('e', 950).cut(5, 49));
        CHECKS.refused("cut of 50 to 950", IllegalStateException.class, () -> stocked('e', 950), s -> s.cut(5, 50));
        long twelve = Checks.word("eeeeeeeeeeee");
        CHECKS.equal("cut of 600 to 399", 999, stocked('e', 399).cut(twelve, 50));
        CHECKS.refused("cut of 600 to 400", IllegalStateException.class, () -> stocked('e', 400),
                shop -> shop.cut(twelve, 50));
        AnagramButcher shop = stocked('e', 999);
        Checks.answerOf(shop, s -> s.cut(5, 1));
        CHECKS.equal("totalStock after a refused cut", 999, shop.totalStock());
        CHECKS.equal("cameIn after a refused cut", 999, shop.cameIn(5));
        CHECKS.equal("cut of other letters after a refused cut", 1001, shop.cut(Checks.word("az"), 1));
    }

    private static void cutOverTheLimitOfOneLetter() {
        for (char letter : new char[] {'a', 'm', 'z'}) {
            for (String word : new String[] {"b" + letter, letter + "b", "b" + letter + "y", "ybb" + letter}) {
                CHECKS.refused("cut of " + word + " to 999 of " + letter, IllegalStateException.class,
                        () -> stocked(letter, 999), shop -> shop.cut(Checks.word(word), 1));
                CHECKS.equal("cut of " + word + " to 998 of " + letter, 998 + word.length(),
                        stocked(letter, 998).cut(Checks.word(word), 1));
            }
            String twice = letter + "b" + letter;
            CHECKS.refused("cut of " + twice + " to 998 of " + letter, IllegalStateException.class,
                    () -> stocked(letter, 998), shop -> shop.cut(Checks.word(twice), 1));
            CHECKS.equal("cut of " + twice + " to 997 of " + letter, 1000,
                    stocked(letter, 997).cut(Checks.word(twice), 1));
        }
    }

    private static void cutWrongInTwoWays() {
        CHECKS.outOfRange("cut with no room of copies", 1, 50, () -> stocked('a', 999),
                (shop, copies) -> shop.cut(1, copies));
        CHECKS.refused("cut of no word and wrong copies", IllegalArgumentException.class, () -> stocked('a', 999),
                shop -> shop.cut(0, 0));
        CHECKS.notAWord("cut with no room", () -> stocked('a', 999), (shop, number) -> shop.cut(number, 50));
    }

    // ---- Promises 13 and 14

    private static void stockOf() {
        AnagramButcher shop = new AnagramButcher();
        shop.cut(Checks.word("abcdefghijkl"), 1);
        shop.cut(Checks.word("mnopqrstuvwx"), 2);
        shop.cut(Checks.word("yz"), 3);
        for (int letter = 1; letter <= 26; letter++) {
            CHECKS.equal("stockOf " + letter, letter <= 12 ? 1 : letter <= 24 ? 2 : 3, shop.stockOf(letter));
        }
        CHECKS.equal("stockOf a letter without pieces", 0, new AnagramButcher().stockOf(26));
        CHECKS.equal("stockOf a letter with the most pieces", 999, stocked('z', 999).stockOf(26));
        CHECKS.equal("stockOf a letter beside it", 0, stocked('z', 999).stockOf(25));
        AnagramButcher sold = Checks.shop("aab");
        sold.cut(Checks.word("aaabb"), 1);
        sold.sell(Checks.word("aab"), MOST);
        CHECKS.equal("stockOf a after a sale", 1, sold.stockOf(1));
        CHECKS.equal("stockOf b after a sale", 1, sold.stockOf(2));
    }

    private static void stockOfOutOfRange() {
        CHECKS.outOfRange("stockOf", 1, 26, StockTest::someStock, AnagramButcher::stockOf);
        CHECKS.equal("stockOf 1", 2, someStock().stockOf(1));
        CHECKS.equal("stockOf 26", 2, someStock().stockOf(26));
    }

    private static void totalStock() {
        AnagramButcher shop = new AnagramButcher();
        CHECKS.equal("totalStock of none", 0, shop.totalStock());
        shop.cut(26, 1);
        CHECKS.equal("totalStock of z", 1, shop.totalStock());
        shop.cut(Checks.word("abcdefghijkl"), 2);
        CHECKS.equal("totalStock of z and others", 25, shop.totalStock());
        AnagramButcher sold = Checks.shop("z", "a");
        sold.cut(Checks.word("az"), 1);
        sold.sell(26, MOST);
        CHECKS.equal("totalStock after a sale", 1, sold.totalStock());
        sold.sell(1, MOST);
        CHECKS.equal("totalStock after the last sale", 0, sold.totalStock());
        sold.takeBack(0);
        CHECKS.equal("totalStock after a return", 1, sold.totalStock());
    }

    private static void totalOfAFullStock() {
        AnagramButcher shop = new AnagramButcher();
        for (String word : new String[] {"abcdefghijkl", "mnopqrstuvwx", "yz"}) {
            for (int i = 0; i < 19; i++) {
                shop.cut(Checks.word(word), 50);
            }
            shop.cut(Checks.word(word), 49);
        }
        CHECKS.equal("totalStock of a full stock", 26 * 999, shop.totalStock());
        for (int letter = 1; letter <= 26; letter++) {
            int full = letter;
            CHECKS.equal("stockOf " + letter + " in a full stock", 999, shop.stockOf(letter));
            CHECKS.equal("cut of " + letter + " to a full stock", "throws.java.lang.IllegalStateException",
                    Checks.answerOf(shop, s -> s.cut(full, 1)));
        }
        CHECKS.equal("totalStock after refused cuts", 26 * 999, shop.totalStock());
    }

    // ---- Promises 15 and 16

    private static void setBasePrice() {
        AnagramButcher shop = new AnagramButcher();
        int[] letters = {1, 2, 10, 26};
        int[] before = {40, 60, 90, 90};
        for (int i = 0; i < letters.length; i++) {
            CHECKS.equal("setBasePrice of " + letters[i], before[i], shop.setBasePrice(letters[i], 11));
            CHECKS.equal("setBasePrice of " + letters[i] + " again", 11, shop.setBasePrice(letters[i], 17 + i));
            CHECKS.equal("basePriceOf " + letters[i], 17 + i, shop.basePriceOf(letters[i]));
        }
        CHECKS.equal("setBasePrice to the price that it has", 17, shop.setBasePrice(1, 17));
    }

    private static void setBasePriceUpToTheLimits() {
        AnagramButcher shop = new AnagramButcher();
        CHECKS.equal("setBasePrice of a to 1", 40, shop.setBasePrice(1, 1));
        CHECKS.equal("setBasePrice of a to 999", 1, shop.setBasePrice(1, 999));
        CHECKS.equal("setBasePrice of z to 999", 90, shop.setBasePrice(26, 999));
        CHECKS.equal("setBasePrice of z to 1", 999, shop.setBasePrice(26, 1));
        CHECKS.equal("basePriceOf a", 999, shop.basePriceOf(1));
        CHECKS.equal("basePriceOf z", 1, shop.basePriceOf(26));
        CHECKS.equal("basePriceOf b", 60, shop.basePriceOf(2));
        CHECKS.equal("basePriceOf y", 60, shop.basePriceOf(25));
    }

    private static void setBasePriceWrongLetter() {
        CHECKS.outOfRange("setBasePrice of letter", 1, 26, StockTest::someStock,
                (shop, letter) -> shop.setBasePrice(letter, 5));
        CHECKS.outOfRange("setBasePrice to wrong pence of letter", 1, 26, StockTest::someStock,
                (shop, letter) -> shop.setBasePrice(letter, 0));
    }

    private static void setBasePriceWrongPence() {
        CHECKS.outOfRange("setBasePrice of a to", 1, 999, StockTest::someStock,
                (shop, pence) -> shop.setBasePrice(1, pence));
        CHECKS.outOfRange("setBasePrice of z to", 1, 999, StockTest::someStock,
                (shop, pence) -> shop.setBasePrice(26, pence));
    }

    private static void firstBasePrices() {
        AnagramButcher shop = new AnagramButcher();
        String tens = "46664666496666469666466969";
        for (int letter = 1; letter <= 26; letter++) {
            CHECKS.equal("basePriceOf " + letter, 10 * (tens.charAt(letter - 1) - '0'), shop.basePriceOf(letter));
        }
    }

    private static void basePriceOf() {
        AnagramButcher shop = Checks.shop("a");
        for (int letter = 1; letter <= 26; letter++) {
            shop.setBasePrice(letter, 100 + letter);
        }
        shop.cut(Checks.word("abz"), 3);
        shop.sell(1, MOST);
        for (int letter = 1; letter <= 26; letter++) {
            CHECKS.equal("basePriceOf " + letter, 100 + letter, shop.basePriceOf(letter));
        }
    }

    private static void basePriceOfOutOfRange() {
        CHECKS.outOfRange("basePriceOf", 1, 26, StockTest::someStock, AnagramButcher::basePriceOf);
        CHECKS.equal("basePriceOf 1", 40, someStock().basePriceOf(1));
        CHECKS.equal("basePriceOf 26", 90, someStock().basePriceOf(26));
    }

    // ---- Promise 17

    private static void scarcity() {
        int[] due = {80, 76, 72, 68, 64, 60, 56, 52, 48, 44, 40, 40, 40};
        for (int pieces = 0; pieces < due.length; pieces++) {
            CHECKS.equal("presentPriceOf a with " + pieces, due[pieces], stocked('a', pieces).presentPriceOf(1));
        }
        CHECKS.equal("presentPriceOf a with 20", 40, stocked('a', 20).presentPriceOf(1));
        CHECKS.equal("presentPriceOf a with 999", 40, stocked('a', 999).presentPriceOf(1));
        AnagramButcher sold = Checks.shop("a");
        sold.cut(1, 10);
        CHECKS.equal("presentPriceOf a with the tenth piece", 40, sold.presentPriceOf(1));
        sold.sell(1, MOST);
        CHECKS.equal("presentPriceOf a without it", 44, sold.presentPriceOf(1));
        sold.takeBack(0);
        CHECKS.equal("presentPriceOf a with it again", 40, sold.presentPriceOf(1));
    }

    private static void roundedPrice() {
        AnagramButcher shop = new AnagramButcher();
        shop.setBasePrice(2, 999);
        shop.setBasePrice(3, 1);
        shop.setBasePrice(4, 9);
        int[] dueForB = {1998, 1898, 1798, 1698, 1598, 1498, 1398, 1298, 1198, 1098, 999, 999};
        int[] dueForC = {2, 1, 1, 1, 1, 1, 1, 1, 1, 1, 1, 1};
        int[] dueForD = {18, 17, 16, 15, 14, 13, 12, 11, 10, 9, 9, 9};
        for (int pieces = 0; pieces < dueForB.length; pieces++) {
            CHECKS.equal("presentPriceOf b with " + pieces, dueForB[pieces], shop.presentPriceOf(2));
            CHECKS.equal("presentPriceOf c with " + pieces, dueForC[pieces], shop.presentPriceOf(3));
            CHECKS.equal("presentPriceOf d with " + pieces, dueForD[pieces], shop.presentPriceOf(4));
            shop.cut(Checks.word("bcd"), 1);
        }
    }

    private static void presentPrices() {
        AnagramButcher shop = new AnagramButcher();
        for (int letter = 1; letter <= 26; letter++) {
            CHECKS.equal("presentPriceOf " + letter + " of an empty stock", 2 * shop.basePriceOf(letter),
                    shop.presentPriceOf(letter));
        }
        shop.cut(26, 10);
        shop.setBasePrice(26, 33);
        CHECKS.equal("presentPriceOf z with a new base price", 33, shop.presentPriceOf(26));
        CHECKS.equal("presentPriceOf y", 120, shop.presentPriceOf(25));
        CHECKS.equal("basePriceOf y", 60, shop.basePriceOf(25));
    }

    private static void presentPriceOutOfRange() {
        CHECKS.outOfRange("presentPriceOf", 1, 26, StockTest::someStock, AnagramButcher::presentPriceOf);
        CHECKS.equal("presentPriceOf 1", 72, someStock().presentPriceOf(1));
        CHECKS.equal("presentPriceOf 26", 162, someStock().presentPriceOf(26));
    }

    // ---- Promise 18

    private static void weightOfLetters() {
        AnagramButcher shop = new AnagramButcher();
        String ounces = "23332333233353233333235333";
        for (int letter = 1; letter <= 26; letter++) {
            CHECKS.equal("weightOf " + letter, ounces.charAt(letter - 1) - '0', shop.weightOf(letter));
        }
    }

    private static void weightOfWords() {
        AnagramButcher shop = Checks.shop("banana");
        String[] words = {"mawmaw", "wwwwwwwwwwww", "aaaaaaaaaaaa", "banana", "abcdefghijkl", "zyx", "ma", "am"};
        int[] due = {24, 60, 24, 15, 33, 9, 7, 7};
        for (int i = 0; i < words.length; i++) {
            CHECKS.equal("weightOf " + words[i], due[i], shop.weightOf(Checks.word(words[i])));
        }
        shop.setBasePrice(1, 500);
        shop.cut(Checks.word("banana"), 50);
        CHECKS.equal("weightOf banana after other calls", 15, shop.weightOf(Checks.word("banana")));
    }

    private static void weightOfNotAWord() {
        CHECKS.notAWord("weightOf", StockTest::someStock, AnagramButcher::weightOf);
        CHECKS.aWord("weightOf", StockTest::someStock, AnagramButcher::weightOf);
    }
}
