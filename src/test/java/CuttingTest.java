/** Promises 26 to 29, sentence by sentence. */
final class CuttingTest {
    private static final Checks CHECKS = new Checks("CuttingTest");
    private static final int A = 1;
    private static final int H = 8;
    private static final int O = 15;
    private static final int T = 20;

    public static void main(String[] args) {
        CHECKS.promise(26, "a list of at most n words", CuttingTest::planOfAtMost);
        CHECKS.promise(26, "the best plan is the one with the most letters", CuttingTest::planOfMostLetters);
        CHECKS.promise(26, "of several of them, the one with the fewest words", CuttingTest::planOfFewestWords);
        CHECKS.promise(26, "each letter occurs, in all words together, at most as often as in the carcass",
                CuttingTest::planWithinTheCarcass);
        CHECKS.promise(26, "It has no words if no word of the dictionary fits into the carcass",
                CuttingTest::planWithoutWords);
        CHECKS.promise(26, "IllegalArgumentException if carcass is not a word", CuttingTest::planLengthNotAWord);
        CHECKS.promise(26, "if most is out of range", CuttingTest::planLengthOutOfRange);

        CHECKS.promise(27, "the one whose word comes first alphabetically at the first place at which they differ",
                CuttingTest::planOfFirstWords);
        CHECKS.promise(27, "in alphabetical order, in which a word can occur several times",
                CuttingTest::planWithAWordTwice);
        CHECKS.promise(27, "the word with this index, of a full dictionary", CuttingTest::planOfAFullDictionary);
        CHECKS.promise(27, "IllegalArgumentException if carcass is not a word", CuttingTest::planWordNotAWord);
        CHECKS.promise(27, "if most is out of range", CuttingTest::planWordOutOfRange);
        CHECKS.promise(27, "IndexOutOfBoundsException if there is no such word", CuttingTest::planWordNoIndex);

        CHECKS.promise(28, "the letters of the carcass that are in no word of the plan", CuttingTest::leftoverCount);
        CHECKS.promise(28, "the number of leftovers, none or all", CuttingTest::leftoversNoneAndAll);
        CHECKS.promise(28, "IllegalArgumentException if carcass is not a word", CuttingTest::leftoverCountNotAWord);
        CHECKS.promise(28, "if most is out of range", CuttingTest::leftoverCountOutOfRange);

        CHECKS.promise(29, "for each word of the plan, in order, a receipt is written", CuttingTest::orderReceipts);
        CHECKS.promise(29, "2 pence for each of its letters are paid", CuttingTest::orderPrices);
        CHECKS.promise(29, "The leftovers, and only these, come to the stock", CuttingTest::orderLeftovers);
        CHECKS.promise(29, "Returns the number of leftovers, none or all", CuttingTest::orderOfNoneAndAll);
        CHECKS.promise(29, "Cuts a carcass by the best plan, or by one without words", CuttingTest::orderWithoutPlan);
        CHECKS.promise(29, "IllegalArgumentException if carcass is not a word", CuttingTest::orderNotAWord);
        CHECKS.promise(29, "if most is out of range", CuttingTest::orderOutOfRange);
        CHECKS.promise(29, "IllegalStateException if there would be more than 999 pieces of a letter",
                CuttingTest::orderUpToTheLimit);
        CHECKS.promise(29, "more than 999 pieces of a letter, of leftovers only", CuttingTest::orderOfFullLetters);
        CHECKS.close();
    }

    /** Checks all that the calls tell of the best plan. */
    private static void plan(AnagramButcher shop, String carcass, int most, String... due) {
        long number = Checks.word(carcass);
        String what = "for " + carcass + " and " + most;
        int letters = 0;
        CHECKS.equal("planLength " + what, due.length, shop.planLength(number, most));
        for (int i = 0; i < due.length; i++) {
            CHECKS.equal("planWord " + i + " " + what, Checks.word(due[i]), shop.planWord(number, most, i));
            letters += due[i].length();
        }
        CHECKS.equal("leftoverCount " + what, carcass.length() - letters, shop.leftoverCount(number, most));
    }

    private static AnagramButcher chatShop() {
        return Checks.shop("a", "at", "cat", "hat", "chat");
    }

    /** Answers a shop with the words at and chat, and pieces of one letter. */
    private static AnagramButcher stocked(char letter, int pieces) {
        AnagramButcher shop = Checks.shop("at", "chat");
        Checks.bring(shop, letter, pieces);
        return shop;
    }

    // ---- Promise 26

    private static void planOfAtMost() {
        AnagramButcher shop = Checks.shop("a");
        plan(shop, "a", 3, "a");
        plan(shop, "aa", 1, "a");
        plan(shop, "aa", 2, "a", "a");
        plan(shop, "aa", 3, "a", "a");
        plan(shop, "aaaa", 1, "a");
        plan(shop, "aaaa", 2, "a", "a");
        plan(shop, "aaaa", 3, "a", "a", "a");
        plan(shop, "aaaaaaaaaaaa", 3, "a", "a", "a");
        plan(Checks.shop("abcd", "efgh", "ijkl"), "lkjihgfedcba", 3, "abcd", "efgh", "ijkl");
        plan(Checks.shop("abc", "def", "ghi", "jkl"), "lkjihgfedcba", 3, "abc", "def", "ghi");
    }

    private static void planOfMostLetters() {
        AnagramButcher shop = chatShop();
        plan(shop, "chat", 1, "chat");
        plan(shop, "hatcat", 1, "chat");
        plan(shop, "hatcat", 2, "at", "chat");
        AnagramButcher long12 = Checks.shop("abcd", "efgh", "ijkl", "abcdefghijk", "l");
        plan(long12, "lkjihgfedcba", 1, "abcdefghijk");
        plan(long12, "lkjihgfedcba", 2, "abcdefghijk", "l");
        long12.removeWord(12);
        plan(long12, "lkjihgfedcba", 2, "abcdefghijk");
        plan(long12, "lkjihgfedcba", 3, "abcd", "efgh", "ijkl");
        plan(Checks.shop("abc", "ad", "bc"), "abcd", 2, "ad", "bc");
        plan(Checks.shop("abc", "ad", "b", "c"), "abcd", 3, "ad", "b", "c");
    }

    private static void planOfFewestWords() {
        AnagramButcher shop = Checks.shop("a", "ab", "b", "c", "bc", "cba");
        plan(shop, "bca", 1, "cba");
        plan(shop, "bca", 2, "cba");
        plan(shop, "bca", 3, "cba");
        plan(shop, "cbac", 3, "c", "cba");
        shop.removeWord(Checks.word("cba"));
        plan(shop, "bca", 3, "a", "bc");
        shop.removeWord(Checks.word("bc"));
        shop.removeWord(Checks.word("ab"));
        plan(shop, "bca", 3, "a", "b", "c");
        plan(Checks.shop("a", "b", "ba"), "ab", 3, "ba");
    }

    private static void planWithinTheCarcass() {
        AnagramButcher shop = Checks.shop("aa");
        plan(shop, "aa", 3, "aa");
        plan(shop, "aaa", 3, "aa");
        plan(shop, "aaaa", 3, "aa", "aa");
        plan(shop, "aaaab", 3, "aa", "aa");
        AnagramButcher two = Checks.shop("aab", "abb");
        plan(two, "aab", 2, "aab");
        plan(two, "aaabb", 2, "aab");
        plan(two, "aabbb", 2, "aab");
        plan(two, "aaabbb", 2, "aab", "abb");
        plan(two, "aaaaab", 2, "aab");
    }

    private static void planWithoutWords() {
        for (int most = 1; most <= 3; most++) {
            plan(new AnagramButcher(), "a", most);
            plan(Checks.shop("ab", "c"), "aaaaaaaaaaaa", most);
            plan(Checks.shop("aab", "c"), "abd", most);
            plan(Checks.shop("aab", "c"), "aabd", most, "aab");
        }
        AnagramButcher shop = Checks.shop("ab", "c");
        plan(shop, "abc", 3, "ab", "c");
        plan(shop, "d", 3);
        shop.removeWord(Checks.word("ab"));
        shop.removeWord(3);
        plan(shop, "abc", 3);
    }

    private static void planLengthNotAWord() {
        CHECKS.notAWord("planLength", CuttingTest::chatShop, (shop, number) -> shop.planLength(number, 1));
        CHECKS.notAWord("planLength for wrong numbers too", CuttingTest::chatShop,
                (shop, number) -> shop.planLength(number, 0));
        CHECKS.aWord("planLength", CuttingTest::chatShop, (shop, number) -> shop.planLength(number, 1));
    }

    private static void planLengthOutOfRange() {
        CHECKS.outOfRange("planLength for", 1, 3, CuttingTest::chatShop, (shop, most) -> shop.planLength(A, most));
        CHECKS.outOfRange("planLength in a new shop for", 1, 3, AnagramButcher::new,
                (shop, most) -> shop.planLength(A, most));
        CHECKS.equal("planLength for 1", 1, chatShop().planLength(Checks.word("aaaa"), 1));
        CHECKS.equal("planLength for 3", 3, chatShop().planLength(Checks.word("aaaa"), 3));
    }

    // ---- Promise 27

    private static void planOfFirstWords() {
        AnagramButcher shop = Checks.shop("ad", "bc", "ab", "cd", "ac", "bd", "dc");
        plan(shop, "dcba", 1, "ab");
        plan(shop, "dcba", 2, "ab", "cd");
        plan(shop, "dcba", 3, "ab", "cd");
        shop.removeWord(Checks.word("cd"));
        plan(shop, "dcba", 2, "ab", "dc");
        shop.removeWord(Checks.word("ab"));
        plan(shop, "dcba", 2, "ac", "bd");
        plan(Checks.shop("a", "ab", "c", "bc"), "abc", 2, "a", "bc");
        plan(Checks.shop("ab", "cd", "e", "f"), "fedcba", 3, "ab", "cd", "e");
        plan(Checks.shop("ab", "cd", "ce", "de"), "edcba", 3, "ab", "cd");
        plan(Checks.shop("b", "ba", "ab"), "ab", 1, "ab");
    }

    private static void planWithAWordTwice() {
        AnagramButcher shop = Checks.shop("b", "aa");
        plan(shop, "aaaab", 1, "aa");
        plan(shop, "aaaab", 2, "aa", "aa");
        plan(shop, "aaaab", 3, "aa", "aa", "b");
        plan(shop, "aaaaaaa", 3, "aa", "aa", "aa");
        plan(shop, "bbaaa", 3, "aa", "b", "b");
        plan(Checks.shop("zzzz"), "zzzzzzzzzzzz", 3, "zzzz", "zzzz", "zzzz");
    }

    private static void planOfAFullDictionary() {
        AnagramButcher shop = Checks.fullShop();
        plan(shop, "chcgcf", 2, "cc", "cf");
        plan(shop, "chcgcf", 3, "cf", "cg", "ch");
        plan(shop, "ch", 3, "ch");
        plan(shop, "bzch", 3, "bz", "ch");
        plan(shop, "zzzzzzzzzzza", 3, "az");
        plan(shop, "aaaaaaaaaaaa", 3, "aa", "aa", "aa");
    }

    private static void planWordNotAWord() {
        CHECKS.notAWord("planWord 0", CuttingTest::chatShop, (shop, number) -> shop.planWord(number, 1, 0));
        CHECKS.notAWord("planWord of a wrong index for wrong numbers too", CuttingTest::chatShop,
                (shop, number) -> shop.planWord(number, 4, -1));
        CHECKS.aWord("planWord 0", CuttingTest::chatShop, (shop, number) -> shop.planWord(number, 1, 0));
    }

    private static void planWordOutOfRange() {
        CHECKS.outOfRange("planWord 0 for", 1, 3, CuttingTest::chatShop, (shop, most) -> shop.planWord(A, most, 0));
        CHECKS.outOfRange("planWord of a wrong index for", 1, 3, CuttingTest::chatShop,
                (shop, most) -> shop.planWord(A, most, 1));
        CHECKS.equal("planWord 0 for 1", 1, chatShop().planWord(A, 1, 0));
        CHECKS.equal("planWord 2 for 3", 1, chatShop().planWord(Checks.word("aaaa"), 3, 2));
    }

    private static void planWordNoIndex() {
        for (int most = 1; most <= 3; most++) {
            int words = most;
            CHECKS.noIndex("planWord of " + words + " words", words, CuttingTest::chatShop,
                    (shop, index) -> shop.planWord(Checks.word("aaaa"), words, index));
            CHECKS.noIndex("planWord of one word for " + words, 1, CuttingTest::chatShop,
                    (shop, index) -> shop.planWord(Checks.word("chat"), words, index));
            CHECKS.noIndex("planWord of no word for " + words, 0, CuttingTest::chatShop,
                    (shop, index) -> shop.planWord(Checks.word("zoo"), words, index));
            CHECKS.equal("planWord of the last index for " + words, A,
                    chatShop().planWord(Checks.word("aaaa"), words, words - 1));
        }
        CHECKS.noIndex("planWord in an empty dictionary", 0, AnagramButcher::new,
                (shop, index) -> shop.planWord(A, 3, index));
    }

    // ---- Promise 28

    private static void leftoverCount() {
        AnagramButcher shop = chatShop();
        long carcass = Checks.word("hatcathh");
        CHECKS.equal("leftoverCount for 1", 4, shop.leftoverCount(carcass, 1));
        CHECKS.equal("leftoverCount for 2", 1, shop.leftoverCount(carcass, 2));
        CHECKS.equal("leftoverCount for 3", 1, shop.leftoverCount(carcass, 3));
        CHECKS.equal("totalStock afterwards", 0, shop.totalStock());
        CHECKS.equal("receiptCount afterwards", 0, shop.receiptCount());
    }

    private static void leftoversNoneAndAll() {
        AnagramButcher shop = Checks.shop("a", "abcdefghijkl");
        CHECKS.equal("leftoverCount of one letter", 0, shop.leftoverCount(A, 1));
        CHECKS.equal("leftoverCount of twelve letters", 0, shop.leftoverCount(Checks.word("lkjihgfedcba"), 3));
        CHECKS.equal("leftoverCount where none fits", 12, shop.leftoverCount(Checks.word("zzzzzzzzzzzz"), 3));
        CHECKS.equal("leftoverCount of one letter where none fits", 1, shop.leftoverCount(2, 1));
        CHECKS.equal("leftoverCount where one letter fits", 11, shop.leftoverCount(Checks.word("azzzzzzzzzzz"), 3));
        CHECKS.equal("leftoverCount in an empty dictionary", 12,
                new AnagramButcher().leftoverCount(Checks.word("aaaaaaaaaaaa"), 1));
    }

    private static void leftoverCountNotAWord() {
        CHECKS.notAWord("leftoverCount", CuttingTest::chatShop, (shop, number) -> shop.leftoverCount(number, 3));
        CHECKS.notAWord("leftoverCount for wrong numbers too", CuttingTest::chatShop,
                (shop, number) -> shop.leftoverCount(number, 4));
        CHECKS.aWord("leftoverCount", CuttingTest::chatShop, (shop, number) -> shop.leftoverCount(number, 1));
    }

    private static void leftoverCountOutOfRange() {
        CHECKS.outOfRange("leftoverCount for", 1, 3, CuttingTest::chatShop,
                (shop, most) -> shop.leftoverCount(A, most));
        CHECKS.outOfRange("leftoverCount in a new shop for", 1, 3, AnagramButcher::new,
                (shop, most) -> shop.leftoverCount(A, most));
        CHECKS.equal("leftoverCount for 1", 3, chatShop().leftoverCount(Checks.word("aaaa"), 1));
        CHECKS.equal("leftoverCount for 3", 1, chatShop().leftoverCount(Checks.word("aaaa"), 3));
    }

    // ---- Promise 29

    private static void receipts(AnagramButcher shop, int most, String carcass, String... due) {
        shop.cutToOrder(Checks.word(carcass), most);
        CHECKS.equal("receiptCount of " + carcass, due.length, shop.receiptCount());
        int takings = 0;
        for (int i = 0; i < due.length; i++) {
            CHECKS.equal("receiptWord " + i + " of " + carcass, Checks.word(due[i]), shop.receiptWord(i));
            CHECKS.equal("receiptPrice " + i, 2 * due[i].length(), shop.receiptPrice(i));
            CHECKS.equal("isReturned " + i, false, shop.isReturned(i));
            takings += 2 * due[i].length();
        }
        CHECKS.equal("takings of " + carcass, takings, shop.takings());
    }

    private static void orderReceipts() {
        receipts(chatShop(), 2, "hatcat", "at", "chat");
        receipts(chatShop(), 3, "hatcath", "chat", "hat");
        receipts(chatShop(), 1, "hatcath", "chat");
        receipts(Checks.shop("zz", "a"), 3, "zazzz", "a", "zz", "zz");
        receipts(Checks.shop("a"), 3, "aaaa", "a", "a", "a");
        receipts(chatShop(), 3, "zoo");
        AnagramButcher shop = chatShop();
        shop.cutToOrder(Checks.word("chat"), 3);
        shop.cutToOrder(Checks.word("at"), 3);
        CHECKS.equal("receiptCount of two orders", 2, shop.receiptCount());
        CHECKS.equal("receiptWord 1 of two orders", Checks.word("at"), shop.receiptWord(1));
        CHECKS.equal("wordCount after orders", 5, shop.wordCount());
    }

    private static void orderPrices() {
        receipts(Checks.shop("a"), 1, "a", "a");
        receipts(Checks.shop("abcdefghijkl"), 1, "lkjihgfedcba", "abcdefghijkl");
        AnagramButcher dear = Checks.shop("a");
        dear.setBasePrice(A, 999);
        dear.cutToOrder(A, 1);
        CHECKS.equal("takings of an order of a dear letter", 2, dear.takings());
    }

    private static void orderLeftovers() {
        AnagramButcher shop = Checks.shop("at", "chat");
        shop.cut(Checks.word("ah"), 1);
        CHECKS.equal("cutToOrder", 1, shop.cutToOrder(Checks.word("hatcath"), 2));
        CHECKS.equal("stockOf h", 2, shop.stockOf(H));
        CHECKS.equal("stockOf a", 1, shop.stockOf(A));
        CHECKS.equal("stockOf t", 0, shop.stockOf(T));
        CHECKS.equal("totalStock", 3, shop.totalStock());
        CHECKS.equal("cameIn of h", 3, shop.cameIn(H));
        CHECKS.equal("cameIn of a", 3, shop.cameIn(A));
        CHECKS.equal("cameIn of t", 2, shop.cameIn(T));
        CHECKS.equal("soldPieces of h", 1, shop.soldPieces(H));
        CHECKS.equal("soldPieces of a", 2, shop.soldPieces(A));
        CHECKS.equal("soldPieces of t", 2, shop.soldPieces(T));
    }

    private static void orderOfNoneAndAll() {
        AnagramButcher shop = chatShop();
        CHECKS.equal("cutToOrder without leftovers", 0, shop.cutToOrder(Checks.word("hatc"), 1));
        CHECKS.equal("totalStock", 0, shop.totalStock());
        CHECKS.equal("cutToOrder of one letter without leftovers", 0, shop.cutToOrder(A, 1));
        CHECKS.equal("totalStock then", 0, shop.totalStock());
        CHECKS.equal("cutToOrder of leftovers only", 12, shop.cutToOrder(Checks.word("zzzzzzzzzzzz"), 3));
        CHECKS.equal("stockOf z", 12, shop.stockOf(26));
    }

    private static void orderWithoutPlan() {
        AnagramButcher[] shops = {chatShop(), new AnagramButcher()};
        for (AnagramButcher shop : shops) {
            CHECKS.equal("cutToOrder where no word fits", 3, shop.cutToOrder(Checks.word("oof"), 3));
            CHECKS.equal("receiptCount", 0, shop.receiptCount());
            CHECKS.equal("takings", 0, shop.takings());
            CHECKS.equal("stockOf o", 2, shop.stockOf(O));
            CHECKS.equal("cameIn of o", 2, shop.cameIn(O));
            CHECKS.equal("soldPieces of o", 0, shop.soldPieces(O));
        }
        shops[0].cutToOrder(Checks.word("chat"), 3);
        CHECKS.equal("cutToOrder where no word fits any more", 1, shops[0].cutToOrder(4, 3));
        CHECKS.equal("receiptCount of the order before alone", 1, shops[0].receiptCount());
    }

    private static void orderNotAWord() {
        CHECKS.notAWord("cutToOrder", CuttingTest::chatShop, (shop, number) -> shop.cutToOrder(number, 1));
        CHECKS.notAWord("cutToOrder for wrong numbers too", CuttingTest::chatShop,
                (shop, number) -> shop.cutToOrder(number, 0));
        CHECKS.aWord("cutToOrder", CuttingTest::chatShop, (shop, number) -> shop.cutToOrder(number, 1));
    }

    private static void orderOutOfRange() {
        CHECKS.outOfRange("cutToOrder for", 1, 3, CuttingTest::chatShop, (shop, most) -> shop.cutToOrder(A, most));
        CHECKS.outOfRange("cutToOrder with no room for", 1, 3, () -> stocked('z', 999),
                (shop, most) -> shop.cutToOrder(26, most));
        CHECKS.equal("cutToOrder for 1", 3, chatShop().cutToOrder(Checks.word("aaaa"), 1));
        CHECKS.equal("cutToOrder for 3", 1, chatShop().cutToOrder(Checks.word("aaaa"), 3));
    }

    private static void orderUpToTheLimit() {
        limit("a", 'a', 1, 1);
        limit("z", 'z', 1, 1);
        limit("aat", 'a', 1, 1);
        limit("aachat", 'a', 2, 2);
        limit("az", 'a', 1, 2);
        limit("az", 'z', 1, 2);
        limit("bzat", 'z', 1, 2);
        limit("yatyzz", 'y', 2, 4);
        limit("zzzzzzzzzzzz", 'z', 12, 12);
        AnagramButcher shop = stocked('z', 999);
        Checks.answerOf(shop, s -> s.cutToOrder(Checks.word("chatz"), 3));
        CHECKS.equal("receiptCount after a refused order", 0, shop.receiptCount());
        CHECKS.equal("takings after a refused order", 0, shop.takings());
        CHECKS.equal("cameIn of a after a refused order", 0, shop.cameIn(A));
        CHECKS.equal("cutToOrder after a refused order", 0, shop.cutToOrder(Checks.word("chat"), 3));
    }

    /** Checks an order for one word where the stock has just enough room for these leftovers, and one too few. */
    private static void limit(String carcass, char letter, int leftovers, int allLeftovers) {
        long number = Checks.word(carcass);
        int room = 999 - leftovers;
        AnagramButcher shop = stocked(letter, room);
        CHECKS.equal("cutToOrder of " + carcass + " to " + room, allLeftovers, shop.cutToOrder(number, 1));
        CHECKS.equal("stockOf " + letter + " then", 999, shop.stockOf(Checks.letter(letter)));
        CHECKS.refused("cutToOrder of " + carcass + " to " + (room + 1), IllegalStateException.class,
                () -> stocked(letter, room + 1), full -> full.cutToOrder(number, 1));
    }

    private static void orderOfFullLetters() {
        AnagramButcher shop = stocked('a', 999);
        CHECKS.equal("cutToOrder of a full letter without leftovers", 0, shop.cutToOrder(Checks.word("ta"), 1));
        CHECKS.equal("cutToOrder of a full letter with other leftovers", 2, shop.cutToOrder(Checks.word("tazz"), 1));
        CHECKS.equal("cutToOrder of another letter", 1, shop.cutToOrder(26, 1));
        CHECKS.equal("stockOf a", 999, shop.stockOf(A));
        CHECKS.equal("stockOf z", 3, shop.stockOf(26));
        CHECKS.equal("soldPieces of a", 2, shop.soldPieces(A));
        CHECKS.equal("cameIn of a", 1001, shop.cameIn(A));
        CHECKS.refused("cutToOrder of a full letter where no word fits", IllegalStateException.class,
                () -> stocked('a', 999), s -> s.cutToOrder(A, 3));
    }
}
