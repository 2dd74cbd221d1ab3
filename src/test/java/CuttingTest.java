/** Promises 26 to 29. */
final class CuttingTest {
    private static final Checks CHECKS = new Checks("CuttingTest");

    public static void main(String[] args) {
        plans();
        noWordFits();
        wrongCalls();
        cutToOrder();
        cutToOrderWithoutAPlan();
        cutToOrderUpToTheLimit();
        CHECKS.close();
    }

    private static void plan(AnagramButcher shop, String carcass, int most, String... due) {
        long number = Checks.word(carcass);
        String what = "for " + carcass + " and " + most;
        int letters = 0;
        CHECKS.equal("planLength " + what, due.length, shop.planLength(number, most));
        for (int i = 0; i < due.length; i++) {
            CHECKS.equal("planWord " + i + " " + what, Checks.word(due[i]), shop.planWord(number, most, i));
            letters += due[i].length();
        }
        CHECKS.equal("leftoverCount " + what, carcass.length() - letters, shop.leftoverCount(number, most));
        CHECKS.noIndex("planWord " + what, due.length, shop, index -> shop.planWord(number, most, index));
    }

    private static void plans() {
        AnagramButcher shop = Checks.shop("a", "at", "cat", "hat", "chat");
        plan(shop, "chat", 1, "chat");
        plan(shop, "hatcat", 1, "chat");
        plan(shop, "hatcat", 2, "at", "chat");
        plan(shop, "hatcat", 3, "at", "chat");
        AnagramButcher most = Checks.shop("a", "aa", "b");
        plan(most, "aaaab", 1, "aa");
        plan(most, "aaaab", 2, "aa", "aa");
        plan(most, "aaaab", 3, "aa", "aa", "b");
        plan(most, "aaa", 3, "a", "aa");
        plan(most, "aaaaaaa", 3, "aa", "aa", "aa");
        plan(Checks.shop("aa"), "aaaa", 1, "aa");
        plan(Checks.shop("aa"), "aaaa", 2, "aa", "aa");
        AnagramButcher fewest = Checks.shop("a", "ab", "b", "c", "bc", "abc");
        plan(fewest, "cba", 3, "abc");
        plan(fewest, "cbac", 3, "abc", "c");
        fewest.removeWord(Checks.word("abc"));
        plan(fewest, "cba", 3, "a", "bc");
        plan(fewest, "cba", 1, "ab");
        AnagramButcher first = Checks.shop("ad", "bc", "ab", "cd", "ac", "bd", "dc");
        plan(first, "dcba", 1, "ab");
        plan(first, "dcba", 3, "ab", "cd");
        first.removeWord(Checks.word("ab"));
        plan(first, "dcba", 2, "ac", "bd");
        AnagramButcher long12 = Checks.shop("abcd", "efgh", "ijkl", "abcdefghijk", "l");
        plan(long12, "lkjihgfedcba", 1, "abcdefghijk");
        plan(long12, "lkjihgfedcba", 2, "abcdefghijk", "l");
        long12.removeWord(12);
        plan(long12, "lkjihgfedcba", 2, "abcdefghijk");
        plan(long12, "lkjihgfedcba", 3, "abcd", "efgh", "ijkl");
    }

    private static void noWordFits() {
        plan(new AnagramButcher(), "a", 3);
        plan(Checks.shop("ab", "c"), "aaabd", 3, "ab");
        plan(Checks.shop("aab", "c"), "abd", 3);
        AnagramButcher shop = Checks.shop("ab", "c");
        plan(shop, "abc", 3, "ab", "c");
        plan(shop, "d", 3);
        shop.cutToOrder(Checks.word("abc"), 3);
        CHECKS.equal("cutToOrder where no word fits any more", 1, shop.cutToOrder(4, 3));
        CHECKS.equal("receiptCount of the first order alone", 2, shop.receiptCount());
    }

    private static void wrongCalls() {
        AnagramButcher shop = Checks.shop("a", "cat");
        CHECKS.notAWord("planLength", shop, number -> shop.planLength(number, 1));
        CHECKS.notAWord("planWord", shop, number -> shop.planWord(number, 1, 0));
        CHECKS.notAWord("planWord at a wrong index", shop, number -> shop.planWord(number, 1, -1));
        CHECKS.notAWord("leftoverCount", shop, number -> shop.leftoverCount(number, 3));
        CHECKS.notAWord("cutToOrder", shop, number -> shop.cutToOrder(number, 1));
        CHECKS.outOfRange("planLength for", 1, 3, shop, most -> shop.planLength(1, most));
        CHECKS.outOfRange("planWord for", 1, 3, shop, most -> shop.planWord(1, most, 0));
        CHECKS.outOfRange("planWord at a wrong index for", 1, 3, shop, most -> shop.planWord(1, most, 1));
        CHECKS.outOfRange("leftoverCount for", 1, 3, shop, most -> shop.leftoverCount(1, most));
        CHECKS.outOfRange("cutToOrder for", 1, 3, shop, most -> shop.cutToOrder(1, most));
    }

    private static void cutToOrder() {
        AnagramButcher shop = Checks.shop("at", "chat", "zoo");
        shop.cut(Checks.word("ah"), 1);
        CHECKS.equal("cutToOrder", 1, shop.cutToOrder(Checks.word("hatcath"), 2));
        CHECKS.equal("receiptCount", 2, shop.receiptCount());
        CHECKS.equal("receiptWord 0", Checks.word("at"), shop.receiptWord(0));
        CHECKS.equal("receiptPrice 0", 4, shop.receiptPrice(0));
        CHECKS.equal("receiptWord 1", Checks.word("chat"), shop.receiptWord(1));
        CHECKS.equal("receiptPrice 1", 8, shop.receiptPrice(1));
        CHECKS.equal("takings", 12, shop.takings());
        CHECKS.equal("stockOf h", 2, shop.stockOf(Checks.letter('h')));
        CHECKS.equal("stockOf a", 1, shop.stockOf(1));
        CHECKS.equal("totalStock", 3, shop.totalStock());
        CHECKS.equal("cameIn of h", 3, shop.cameIn(Checks.letter('h')));
        CHECKS.equal("cameIn of a", 3, shop.cameIn(1));
        CHECKS.equal("soldPieces of h", 1, shop.soldPieces(Checks.letter('h')));
        CHECKS.equal("soldPieces of a", 2, shop.soldPieces(1));
        CHECKS.equal("cutToOrder without leftovers", 0, shop.cutToOrder(Checks.word("hatc"), 1));
        CHECKS.equal("totalStock then", 3, shop.totalStock());
        CHECKS.equal("takings then", 20, shop.takings());
        CHECKS.equal("wordCount after it", 3, shop.wordCount());
    }

    private static void cutToOrderWithoutAPlan() {
        AnagramButcher shop = Checks.shop("zoo");
        CHECKS.equal("cutToOrder where no word fits", 3, shop.cutToOrder(Checks.word("oof"), 3));
        CHECKS.equal("receiptCount", 0, shop.receiptCount());
        CHECKS.equal("takings", 0, shop.takings());
        CHECKS.equal("stockOf o", 2, shop.stockOf(15));
        CHECKS.equal("cameIn of o", 2, shop.cameIn(15));
        CHECKS.equal("soldPieces of o", 0, shop.soldPieces(15));
    }

    private static void cutToOrderUpToTheLimit() {
        AnagramButcher shop = Checks.shop("ab");
        for (int i = 0; i < 19; i++) {
            shop.cut(1, 50);
        }
        shop.cut(1, 48);
        CHECKS.refused("cutToOrder to 1000", IllegalStateException.class, shop,
                () -> shop.cutToOrder(Checks.word("aaba"), 3));
        CHECKS.equal("cutToOrder to 999", 1, shop.cutToOrder(Checks.word("aba"), 3));
        CHECKS.refused("cutToOrder to 1000 again", IllegalStateException.class, shop,
                () -> shop.cutToOrder(Checks.word("abaab"), 1));
        CHECKS.equal("cutToOrder beside the full letter", 0, shop.cutToOrder(Checks.word("ab"), 1));
        CHECKS.equal("cutToOrder of another letter", 1, shop.cutToOrder(26, 1));
        CHECKS.outOfRange("cutToOrder with no room", 1, 3, shop, most -> shop.cutToOrder(1, most));
    }
}
