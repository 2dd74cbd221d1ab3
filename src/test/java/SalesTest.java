import java.util.NoSuchElementException;

/** Promises 19 to 25, sentence by sentence. */
final class SalesTest {
    private static final Checks CHECKS = new Checks("SalesTest");
    private static final int MOST = 99999;
    private static final long AB = Checks.word("ab");

    public static void main(String[] args) {
        CHECKS.promise(19, "Returns the cost that it would have now", SalesTest::costOf);
        CHECKS.promise(19, "the present price of its letter, as it is just before the piece is taken",
                SalesTest::costOfPiecesInTurn);
        CHECKS.promise(19, "the sum of these products, divided by 16 and rounded up", SalesTest::costIsRoundedUp);
        CHECKS.promise(19, "a word, which need not be in the dictionary", SalesTest::costOfAnyWord);
        CHECKS.promise(19, "IllegalArgumentException if it is not a word", SalesTest::costOfNotAWord);
        CHECKS.promise(19, "NoSuchElementException if the stock has too few pieces of one of its letters",
                SalesTest::costOfTooFewPieces);

        CHECKS.promise(20, "the letter with the smallest number of which the stock has too few pieces",
                SalesTest::missingLetter);
        CHECKS.promise(20, "NONE if there is none", SalesTest::noMissingLetter);
        CHECKS.promise(20, "IllegalArgumentException if it is not a word", SalesTest::missingLetterNotAWord);

        CHECKS.promise(21, "1 the word is not in the dictionary", SalesTest::refusalOfUnknownWords);
        CHECKS.promise(21, "2 the stock has too few pieces of one of its letters", SalesTest::refusalOfMissingLetters);
        CHECKS.promise(21, "3 the cost is greater than the budget", SalesTest::refusalOverBudget);
        CHECKS.promise(21, "0 if it would not be refused", SalesTest::noRefusal);
        CHECKS.promise(21, "IllegalArgumentException if it is not a word", SalesTest::refusalOfNotAWord);
        CHECKS.promise(21, "if budget is out of range", SalesTest::refusalOfBudgetOutOfRange);

        CHECKS.promise(22, "Returns what is paid", SalesTest::sell);
        CHECKS.promise(22, "the cost is paid, the budget at least", SalesTest::sellForTheBudget);
        CHECKS.promise(22, "IllegalArgumentException if it is not a word", SalesTest::sellNotAWord);
        CHECKS.promise(22, "if budget is out of range", SalesTest::sellBudgetOutOfRange);
        CHECKS.promise(22, "IllegalStateException if the sale is refused", SalesTest::sellRefused);

        CHECKS.promise(23, "the number of words of the dictionary whose sale would not be refused",
                SalesTest::affordableWords);
        CHECKS.promise(23, "the number of words, none or all", SalesTest::affordableNoneAndAll);
        CHECKS.promise(23, "IllegalArgumentException if budget is out of range", SalesTest::affordableOutOfRange);

        CHECKS.promise(24, "the one with the most letters", SalesTest::bestWordOfMostLetters);
        CHECKS.promise(24, "of several of them the one with the smallest cost", SalesTest::bestWordOfSmallestCost);
        CHECKS.promise(24, "of these the first one alphabetically", SalesTest::bestWordOfEqualCosts);
        CHECKS.promise(24, "whose sale would not be refused", SalesTest::bestWordForBudgets);
        CHECKS.promise(24, "0 if there is none", SalesTest::noBestWord);
        CHECKS.promise(24, "IllegalArgumentException if budget is out of range", SalesTest::bestWordOutOfRange);

        CHECKS.promise(25, "Sells words as long as there are any", SalesTest::spend);
        CHECKS.promise(25, "the best word for what is left of the budget", SalesTest::spendWhatIsLeft);
        CHECKS.promise(25, "at most 20 words", SalesTest::spendForTwentyWords);
        CHECKS.promise(25, "as long as there are any, or none", SalesTest::spendForNothing);
        CHECKS.promise(25, "IllegalArgumentException if budget is out of range", SalesTest::spendOutOfRange);
        CHECKS.close();
    }

    private static AnagramButcher stocked(String carcass, String... words) {
        AnagramButcher shop = Checks.shop(words);
        shop.cut(Checks.word(carcass), 1);
        return shop;
    }

    private static AnagramButcher someShop() {
        return stocked("abb", "ab", "abc", "aa");
    }

    // ---- Promise 19

    private static void costOf() {
        AnagramButcher shop = stocked("aab");
        // a: 40 + 40 * 8 / 10 = 72, then 40 + 40 * 9 / 10 = 76; b: 60 + 60 * 9 / 10 = 114
        CHECKS.equal("costOf a", (72 * 2 + 15) / 16, shop.costOf(1));
        CHECKS.equal("costOf b", (114 * 3 + 15) / 16, shop.costOf(2));
        CHECKS.equal("costOf aa", (148 * 2 + 15) / 16, shop.costOf(Checks.word("aa")));
        CHECKS.equal("costOf aba", (148 * 2 + 114 * 3 + 15) / 16, shop.costOf(Checks.word("aba")));
        CHECKS.equal("costOf baa", (148 * 2 + 114 * 3 + 15) / 16, shop.costOf(Checks.word("baa")));
        CHECKS.equal("totalStock afterwards", 3, shop.totalStock());
        shop.setBasePrice(2, 999);
        CHECKS.equal("costOf b at the highest base price", (1898 * 3 + 15) / 16, shop.costOf(2));
    }

    private static void costOfPiecesInTurn() {
        // bb is twice 60 * 3 with 11 pieces, but 60 * 3 and 66 * 3 with 10, and 66 * 3 and 72 * 3 with 9
        int[] pieces = {2, 9, 10, 11, 12, 999};
        int[] due = {(108 + 114) * 3, (66 + 72) * 3, (60 + 66) * 3, 120 * 3, 120 * 3, 120 * 3};
        for (int i = 0; i < pieces.length; i++) {
            AnagramButcher shop = new AnagramButcher();
            Checks.bring(shop, 'b', pieces[i]);
            CHECKS.equal("costOf bb with " + pieces[i], (due[i] + 15) / 16, shop.costOf(Checks.word("bb")));
        }
        AnagramButcher shop = stocked("wwwwwwwwwwww");
        shop.setBasePrice(23, 999);
        int sum = 3 * 999 + 1098 + 1198 + 1298 + 1398 + 1498 + 1598 + 1698 + 1798 + 1898;
        CHECKS.equal("costOf the dearest word", (sum * 5 + 15) / 16, shop.costOf(Checks.word("wwwwwwwwwwww")));
    }

    private static void costIsRoundedUp() {
        AnagramButcher shop = new AnagramButcher();
        shop.cut(Checks.word("abm"), 30);
        int[] basePrices = {16, 11, 5, 32, 27};
        int[] due = {3, 3, 1, 6, 6};
        for (int i = 0; i < due.length; i++) {
            shop.setBasePrice(2, basePrices[i]);
            CHECKS.equal("costOf b for " + basePrices[i] * 3 + " sixteenths", due[i], shop.costOf(2));
        }
        shop.setBasePrice(1, 1);
        CHECKS.equal("costOf a for 2 sixteenths", 1, shop.costOf(1));
        CHECKS.equal("costOf 8 a for 16 sixteenths", 1, shop.costOf(Checks.word("aaaaaaaa")));
        CHECKS.equal("costOf 9 a for 18 sixteenths", 2, shop.costOf(Checks.word("aaaaaaaaa")));
        shop.setBasePrice(13, 16);
        CHECKS.equal("costOf m for 80 sixteenths", 5, shop.costOf(13));
        CHECKS.equal("costOf ma for 82 sixteenths", 6, shop.costOf(Checks.word("ma")));
    }

    private static void costOfAnyWord() {
        AnagramButcher shop = stocked("ab", "ab");
        // b: 60 + 60 * 9 / 10 = 114, a: 40 + 40 * 9 / 10 = 76
        CHECKS.equal("costOf a word that is in the dictionary", (76 * 2 + 114 * 3 + 15) / 16, shop.costOf(AB));
        CHECKS.equal("costOf a word that is not", (76 * 2 + 114 * 3 + 15) / 16, shop.costOf(Checks.word("ba")));
        shop.removeWord(AB);
        CHECKS.equal("costOf a word of an empty dictionary", (76 * 2 + 114 * 3 + 15) / 16, shop.costOf(AB));
    }

    private static void costOfNotAWord() {
        CHECKS.notAWord("costOf", SalesTest::someShop, AnagramButcher::costOf);
        CHECKS.notAWord("costOf without a stock", AnagramButcher::new, AnagramButcher::costOf);
        CHECKS.aWord("costOf", SalesTest::someShop, AnagramButcher::costOf);
    }

    private static void costOfTooFewPieces() {
        for (String word : new String[] {"aaa", "bb", "aabb", "baaa", "c", "abc", "cab", "zzzzzzzzzzzz"}) {
            CHECKS.refused("costOf " + word + " with aab", NoSuchElementException.class, () -> stocked("aab", "aaa"),
                    shop -> shop.costOf(Checks.word(word)));
        }
        CHECKS.refused("costOf a in a new shop", NoSuchElementException.class, AnagramButcher::new,
                shop -> shop.costOf(1));
        CHECKS.equal("costOf of just the pieces", (148 * 2 + 114 * 3 + 15) / 16,
                stocked("aab").costOf(Checks.word("baa")));
        CHECKS.refused("costOf a sold piece", NoSuchElementException.class, () -> {
            AnagramButcher shop = stocked("ab", "a");
            shop.sell(1, MOST);
            return shop;
        }, shop -> shop.costOf(AB));
    }

    // ---- Promise 20

    private static void missingLetter() {
        AnagramButcher empty = new AnagramButcher();
        CHECKS.equal("missingLetter of zab in an empty stock", 1, empty.missingLetter(Checks.word("zab")));
        CHECKS.equal("missingLetter of z in an empty stock", 26, empty.missingLetter(26));
        AnagramButcher shop = stocked("aabz");
        String[] words = {"zzbb", "zz", "ycaaa", "yc", "zaaa", "zzaa", "aabzc", "bbzzaaa", "aaaa"};
        int[] due = {2, 26, 1, 3, 1, 26, 3, 1, 1};
        for (int i = 0; i < words.length; i++) {
            CHECKS.equal("missingLetter of " + words[i] + " with aabz", due[i],
                    shop.missingLetter(Checks.word(words[i])));
        }
    }

    private static void noMissingLetter() {
        AnagramButcher shop = stocked("aabz");
        for (String word : new String[] {"a", "b", "z", "aa", "zab", "zaba"}) {
            CHECKS.equal("missingLetter of " + word + " with aabz", AnagramButcher.NONE,
                    shop.missingLetter(Checks.word(word)));
        }
        CHECKS.equal("totalStock afterwards", 4, shop.totalStock());
        AnagramButcher twelve = stocked("zzzzzzzzzzzz");
        CHECKS.equal("missingLetter of twelve z with twelve", -1, twelve.missingLetter(Checks.word("zzzzzzzzzzzz")));
        AnagramButcher eleven = stocked("zzzzzzzzzzz");
        CHECKS.equal("missingLetter of twelve z with eleven", 26, eleven.missingLetter(Checks.word("zzzzzzzzzzzz")));
    }

    private static void missingLetterNotAWord() {
        CHECKS.notAWord("missingLetter", SalesTest::someShop, AnagramButcher::missingLetter);
        CHECKS.aWord("missingLetter", SalesTest::someShop, AnagramButcher::missingLetter);
    }

    // ---- Promise 21

    private static void refusalOfUnknownWords() {
        AnagramButcher shop = someShop();
        for (String word : new String[] {"ba", "a", "abb", "xyz", "zzzzzzzzzzzz"}) {
            CHECKS.equal("refusalOf " + word + " for the most", 1, shop.refusalOf(Checks.word(word), MOST));
            CHECKS.equal("refusalOf " + word + " for nothing", 1, shop.refusalOf(Checks.word(word), 0));
        }
        CHECKS.equal("the reason's constant", 1, AnagramButcher.UNKNOWN_WORD);
        shop.removeWord(AB);
        CHECKS.equal("refusalOf a removed word", 1, shop.refusalOf(AB, MOST));
        CHECKS.equal("refusalOf in an empty dictionary", 1, new AnagramButcher().refusalOf(1, 0));
    }

    private static void refusalOfMissingLetters() {
        AnagramButcher shop = someShop();
        for (String word : new String[] {"abc", "aa"}) {
            CHECKS.equal("refusalOf " + word + " for the most", 2, shop.refusalOf(Checks.word(word), MOST));
            CHECKS.equal("refusalOf " + word + " for nothing", 2, shop.refusalOf(Checks.word(word), 0));
        }
        CHECKS.equal("the reason's constant", 2, AnagramButcher.MISSING_LETTER);
        shop.cut(3, 1);
        CHECKS.equal("refusalOf with just the pieces", 0, shop.refusalOf(Checks.word("abc"), MOST));
    }

    private static void refusalOverBudget() {
        AnagramButcher shop = someShop();
        int cost = shop.costOf(AB);
        CHECKS.equal("refusalOf for nothing", 3, shop.refusalOf(AB, 0));
        CHECKS.equal("refusalOf for a penny too few", 3, shop.refusalOf(AB, cost - 1));
        CHECKS.equal("refusalOf for the cost", 0, shop.refusalOf(AB, cost));
        CHECKS.equal("the reason's constant", 3, AnagramButcher.OVER_BUDGET);
        shop.setBasePrice(1, 1);
        shop.cut(1, 50);
        shop.addWord(1);
        CHECKS.equal("refusalOf the cheapest word for nothing", 3, shop.refusalOf(1, 0));
        CHECKS.equal("refusalOf the cheapest word for a penny", 0, shop.refusalOf(1, 1));
    }

    private static void noRefusal() {
        AnagramButcher shop = someShop();
        CHECKS.equal("refusalOf for a penny more", 0, shop.refusalOf(AB, shop.costOf(AB) + 1));
        CHECKS.equal("refusalOf for the most", 0, shop.refusalOf(AB, MOST));
        CHECKS.equal("refusalOf again", 0, shop.refusalOf(AB, MOST));
        CHECKS.equal("receiptCount afterwards", 0, shop.receiptCount());
        CHECKS.equal("totalStock afterwards", 3, shop.totalStock());
    }

    private static void refusalOfNotAWord() {
        CHECKS.notAWord("refusalOf", SalesTest::someShop, (shop, number) -> shop.refusalOf(number, 0));
        CHECKS.notAWord("refusalOf for a wrong budget too", SalesTest::someShop,
                (shop, number) -> shop.refusalOf(number, -1));
        CHECKS.aWord("refusalOf", SalesTest::someShop, (shop, number) -> shop.refusalOf(number, 0));
    }

    private static void refusalOfBudgetOutOfRange() {
        for (long word : new long[] {AB, Checks.word("aa"), 26}) {
            CHECKS.outOfRange("refusalOf " + word + " for", 0, MOST, SalesTest::someShop,
                    (shop, budget) -> shop.refusalOf(word, budget));
            CHECKS.equal("refusalOf " + word + " for 0 is answered", true, someShop().refusalOf(word, 0) > 0);
            CHECKS.equal("refusalOf " + word + " for 99999 is answered", true, someShop().refusalOf(word, MOST) < 3);
        }
    }

    // ---- Promise 22

    private static void sell() {
        AnagramButcher shop = someShop();
        int cost = shop.costOf(AB);
        CHECKS.equal("sell", cost, shop.sell(AB, MOST));
        CHECKS.equal("stockOf a", 0, shop.stockOf(1));
        CHECKS.equal("stockOf b", 1, shop.stockOf(2));
        CHECKS.equal("takings", cost, shop.takings());
        CHECKS.equal("receiptCount", 1, shop.receiptCount());
        CHECKS.equal("receiptWord", AB, shop.receiptWord(0));
        CHECKS.equal("receiptPrice", cost, shop.receiptPrice(0));
        CHECKS.equal("isReturned", false, shop.isReturned(0));
        CHECKS.equal("soldPieces of a", 1, shop.soldPieces(1));
        CHECKS.equal("cameIn of a", 1, shop.cameIn(1));
        CHECKS.equal("wordCount", 3, shop.wordCount());
        shop.cut(1, 1);
        int second = shop.costOf(AB);
        CHECKS.equal("a scarcer word is dearer", true, second > cost);
        CHECKS.equal("sell of the last pieces", second, shop.sell(AB, second));
        CHECKS.equal("totalStock", 0, shop.totalStock());
        CHECKS.equal("takings of both", cost + second, shop.takings());
        CHECKS.equal("receiptPrice of the second", second, shop.receiptPrice(1));
    }

    private static void sellForTheBudget() {
        int cost = someShop().costOf(AB);
        for (int budget : new int[] {cost, cost + 1, MOST}) {
            CHECKS.equal("sell for " + budget, cost, someShop().sell(AB, budget));
        }
        CHECKS.refused("sell for a penny too few", IllegalStateException.class, SalesTest::someShop,
                shop -> shop.sell(AB, cost - 1));
        CHECKS.refused("sell for nothing", IllegalStateException.class, SalesTest::someShop,
                shop -> shop.sell(AB, 0));
    }

    private static void sellNotAWord() {
        CHECKS.notAWord("sell", SalesTest::someShop, (shop, number) -> shop.sell(number, MOST));
        CHECKS.notAWord("sell for a wrong budget too", SalesTest::someShop, (shop, number) -> shop.sell(number, -1));
        CHECKS.aWord("sell", SalesTest::someShop, (shop, number) -> shop.sell(number, MOST));
    }

    private static void sellBudgetOutOfRange() {
        for (long word : new long[] {AB, Checks.word("aa"), 26}) {
            CHECKS.outOfRange("sell of " + word + " for", 0, MOST, SalesTest::someShop,
                    (shop, budget) -> shop.sell(word, budget));
        }
        CHECKS.equal("sell for 99999", someShop().costOf(AB), someShop().sell(AB, MOST));
        CHECKS.equal("sell for 0", "throws.java.lang.IllegalStateException",
                Checks.answerOf(someShop(), shop -> shop.sell(AB, 0)));
    }

    private static void sellRefused() {
        for (String word : new String[] {"a", "ba", "abb", "abc", "aa", "xyz"}) {
            CHECKS.refused("sell of " + word, IllegalStateException.class, SalesTest::someShop,
                    shop -> shop.sell(Checks.word(word), MOST));
        }
        CHECKS.refused("sell of a piece that is gone", IllegalStateException.class, () -> {
            AnagramButcher shop = someShop();
            shop.sell(AB, MOST);
            return shop;
        }, shop -> shop.sell(AB, MOST));
        CHECKS.refused("sell of a removed word", IllegalStateException.class, () -> {
            AnagramButcher shop = someShop();
            shop.removeWord(AB);
            return shop;
        }, shop -> shop.sell(AB, MOST));
        AnagramButcher shop = someShop();
        Checks.answerOf(shop, s -> s.sell(Checks.word("abc"), MOST));
        CHECKS.equal("sell after a refused sale", someShop().costOf(AB), shop.sell(AB, MOST));
    }

    // ---- Promise 23

    private static void affordableWords() {
        AnagramButcher shop = stocked("ab", "a", "b", "ab", "abc", "aa");
        int[] costs = {shop.costOf(1), shop.costOf(2), shop.costOf(AB)};
        for (int i = 0; i < costs.length; i++) {
            CHECKS.equal("affordableWords for " + costs[i], i + 1, shop.affordableWords(costs[i]));
            CHECKS.equal("affordableWords for a penny less", i, shop.affordableWords(costs[i] - 1));
        }
        CHECKS.equal("affordableWords for the most", 3, shop.affordableWords(MOST));
        shop.cut(3, 1);
        CHECKS.equal("affordableWords with a c", 4, shop.affordableWords(MOST));
        shop.cut(1, 1);
        CHECKS.equal("affordableWords with a second a", 5, shop.affordableWords(MOST));
    }

    private static void affordableNoneAndAll() {
        CHECKS.equal("affordableWords of a new shop", 0, new AnagramButcher().affordableWords(MOST));
        CHECKS.equal("affordableWords of an empty stock", 0, Checks.shop("a", "b").affordableWords(MOST));
        CHECKS.equal("affordableWords of an empty dictionary", 0, stocked("ab").affordableWords(MOST));
        AnagramButcher full = Checks.fullShop();
        full.cut(Checks.word("abcdefghijkl"), 2);
        full.cut(Checks.word("mnopqrstuvwx"), 2);
        full.cut(Checks.word("yz"), 2);
        CHECKS.equal("affordableWords of a full dictionary", 60, full.affordableWords(MOST));
        CHECKS.equal("affordableWords for nothing", 0, full.affordableWords(0));
        full.sell(Checks.word("ch"), MOST);
        full.sell(Checks.word("bh"), MOST);
        // ah, bb, bh, cc and ch have too few pieces now
        CHECKS.equal("affordableWords without an h, a second b and a second c", 55, full.affordableWords(MOST));
    }

    private static void affordableOutOfRange() {
        CHECKS.outOfRange("affordableWords", 0, MOST, SalesTest::someShop, AnagramButcher::affordableWords);
        CHECKS.outOfRange("affordableWords of a new shop", 0, MOST, AnagramButcher::new,
                AnagramButcher::affordableWords);
        CHECKS.equal("affordableWords for 0", 0, someShop().affordableWords(0));
        CHECKS.equal("affordableWords for 99999", 1, someShop().affordableWords(MOST));
    }

    // ---- Promise 24

    private static void bestWordOfMostLetters() {
        AnagramButcher shop = stocked("aaabz", "aa", "ab", "zb", "zba", "a", "zbac");
        CHECKS.equal("a longer word is dearer", true,
                shop.costOf(Checks.word("zba")) > shop.costOf(Checks.word("aa")));
        CHECKS.equal("bestWord", Checks.word("zba"), shop.bestWord(MOST));
        shop.removeWord(Checks.word("zba"));
        CHECKS.equal("bestWord of two letters", Checks.word("aa"), shop.bestWord(MOST));
    }

    private static void bestWordOfSmallestCost() {
        AnagramButcher shop = Checks.shop("bc", "bd", "cd", "d");
        shop.cut(Checks.word("bcd"), 20);
        shop.setBasePrice(2, 48);
        shop.setBasePrice(3, 48);
        shop.setBasePrice(4, 43);
        // 288, 273 and 273 sixteenths: a cost of 18 each
        CHECKS.equal("bestWord of equal costs and unequal sums", Checks.word("bc"), shop.bestWord(MOST));
        shop.setBasePrice(3, 47);
        shop.setBasePrice(4, 42);
        CHECKS.equal("costOf bc", 18, shop.costOf(Checks.word("bc")));
        CHECKS.equal("costOf bd", 17, shop.costOf(Checks.word("bd")));
        CHECKS.equal("bestWord that is a penny cheaper", Checks.word("bd"), shop.bestWord(MOST));
        shop.setBasePrice(3, 40);
        CHECKS.equal("bestWord that is the last and cheapest", Checks.word("cd"), shop.bestWord(MOST));
    }

    private static void bestWordOfEqualCosts() {
        AnagramButcher shop = Checks.shop("dc", "bd", "cb", "bc");
        shop.cut(Checks.word("bcd"), 20);
        for (String best : new String[] {"bc", "bd", "cb", "dc"}) {
            CHECKS.equal("bestWord of equal costs", Checks.word(best), shop.bestWord(MOST));
            shop.removeWord(Checks.word(best));
        }
    }

    private static void bestWordForBudgets() {
        AnagramButcher shop = stocked("abb", "a", "b", "ab", "aa", "abc");
        int[] costs = {shop.costOf(1), shop.costOf(AB)};
        CHECKS.equal("bestWord for the cost of ab", AB, shop.bestWord(costs[1]));
        CHECKS.equal("bestWord for a penny less", 1, shop.bestWord(costs[1] - 1));
        CHECKS.equal("bestWord for the cost of a", 1, shop.bestWord(costs[0]));
        CHECKS.equal("bestWord for a penny less than a", 0, shop.bestWord(costs[0] - 1));
        CHECKS.equal("bestWord for nothing", 0, shop.bestWord(0));
        CHECKS.equal("bestWord for the most", AB, shop.bestWord(MOST));
        CHECKS.equal("receiptCount afterwards", 0, shop.receiptCount());
        CHECKS.equal("totalStock afterwards", 3, shop.totalStock());
        shop.cut(3, 1);
        CHECKS.equal("bestWord with a c", Checks.word("abc"), shop.bestWord(MOST));
    }

    private static void noBestWord() {
        CHECKS.equal("bestWord of a new shop", 0, new AnagramButcher().bestWord(MOST));
        CHECKS.equal("bestWord of an empty stock", 0, Checks.shop("a", "b").bestWord(MOST));
        CHECKS.equal("bestWord of an empty dictionary", 0, stocked("ab").bestWord(MOST));
        CHECKS.equal("bestWord without enough pieces", 0, stocked("ab", "aa", "bb", "abc").bestWord(MOST));
        CHECKS.equal("bestWord for nothing", 0, someShop().bestWord(0));
    }

    private static void bestWordOutOfRange() {
        CHECKS.outOfRange("bestWord", 0, MOST, SalesTest::someShop, AnagramButcher::bestWord);
        CHECKS.outOfRange("bestWord of a new shop", 0, MOST, AnagramButcher::new, AnagramButcher::bestWord);
        CHECKS.equal("bestWord for 0", 0, someShop().bestWord(0));
        CHECKS.equal("bestWord for 99999", AB, someShop().bestWord(MOST));
    }

    // ---- Promise 25

    private static void spend() {
        AnagramButcher shop = stocked("aabc", "ab", "a", "d");
        int first = shop.costOf(AB);
        CHECKS.equal("spend of the most", 2, shop.spend(MOST));
        CHECKS.equal("receiptCount", 2, shop.receiptCount());
        CHECKS.equal("receiptWord 0", AB, shop.receiptWord(0));
        CHECKS.equal("receiptPrice 0", first, shop.receiptPrice(0));
        CHECKS.equal("receiptWord 1", 1, shop.receiptWord(1));
        // a with one piece left costs (76 * 2 + 15) / 16 = 10
        CHECKS.equal("receiptPrice 1", 10, shop.receiptPrice(1));
        CHECKS.equal("totalStock", 1, shop.totalStock());
        CHECKS.equal("takings", first + 10, shop.takings());
        CHECKS.equal("soldPieces of a", 2, shop.soldPieces(1));
        CHECKS.equal("spend where no word is left", 0, shop.spend(MOST));
    }

    private static void spendWhatIsLeft() {
        int first = stocked("aab", "ab", "a").costOf(AB);
        int alone = stocked("aab", "ab", "a").costOf(1);
        int[] budgets = {alone - 1, alone, first - 1, first, first + 9, first + 10, first + 11};
        int[] due = {0, 1, 2, 1, 1, 2, 2};
        long[] words = {0, 1, 1, AB, AB, AB, AB};
        for (int i = 0; i < budgets.length; i++) {
            AnagramButcher shop = stocked("aab", "ab", "a");
            CHECKS.equal("spend of " + budgets[i], due[i], shop.spend(budgets[i]));
            CHECKS.equal("receiptCount after it", due[i], shop.receiptCount());
            CHECKS.equal("the first word", words[i], due[i] > 0 ? shop.receiptWord(0) : 0L);
            CHECKS.equal("no more is taken than the budget", true, shop.takings() <= budgets[i]);
        }
    }

    private static void spendForTwentyWords() {
        int[] pieces = {19, 20, 21, 50};
        int[] due = {19, 20, 20, 20};
        for (int i = 0; i < pieces.length; i++) {
            AnagramButcher shop = Checks.shop("a");
            shop.cut(1, pieces[i]);
            CHECKS.equal("spend with " + pieces[i], due[i], shop.spend(MOST));
            CHECKS.equal("receiptCount after it", due[i], shop.receiptCount());
            CHECKS.equal("stockOf a after it", pieces[i] - due[i], shop.stockOf(1));
        }
        AnagramButcher shop = Checks.shop("a", "bb");
        shop.cut(1, 50);
        shop.cut(2, 6);
        CHECKS.equal("spend", 20, shop.spend(MOST));
        CHECKS.equal("receiptWord 2", Checks.word("bb"), shop.receiptWord(2));
        CHECKS.equal("receiptWord 3", 1, shop.receiptWord(3));
        CHECKS.equal("spend again", 20, shop.spend(MOST));
        CHECKS.equal("spend of the rest", 13, shop.spend(MOST));
        CHECKS.equal("receiptCount then", 53, shop.receiptCount());
    }

    private static void spendForNothing() {
        CHECKS.equal("spend in a new shop", 0, new AnagramButcher().spend(MOST));
        CHECKS.equal("spend in an empty stock", 0, Checks.shop("a").spend(MOST));
        CHECKS.equal("spend in an empty dictionary", 0, stocked("a").spend(MOST));
        AnagramButcher shop = someShop();
        CHECKS.equal("spend of nothing", 0, shop.spend(0));
        CHECKS.equal("the shop afterwards", Checks.stateOf(someShop()), Checks.stateOf(shop));
    }

    private static void spendOutOfRange() {
        CHECKS.outOfRange("spend", 0, MOST, SalesTest::someShop, AnagramButcher::spend);
        CHECKS.outOfRange("spend in a new shop", 0, MOST, AnagramButcher::new, AnagramButcher::spend);
        CHECKS.equal("spend of 0", 0, someShop().spend(0));
        CHECKS.equal("spend of 99999", 1, someShop().spend(MOST));
    }
}
