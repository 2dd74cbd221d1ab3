import java.util.NoSuchElementException;

/** Promises 19 to 25. */
final class SalesTest {
    private static final Checks CHECKS = new Checks("SalesTest");
    private static final int MOST = 99999;

    public static void main(String[] args) {
        costOf();
        missingLetter();
        refusalOf();
        sell();
        affordableWords();
        bestWord();
        spend();
        spendNoMoreThanTwenty();
        CHECKS.close();
    }

    private static void costOf() {
        AnagramButcher shop = new AnagramButcher();
        shop.cut(Checks.word("aab"), 1);
        // a: 40 + 40 * 8 / 10 = 72, then 40 + 40 * 9 / 10 = 76; b: 60 + 60 * 9 / 10 = 114
        CHECKS.equal("costOf a", (72 * 2 + 15) / 16, shop.costOf(1));
        CHECKS.equal("costOf b", (114 * 3 + 15) / 16, shop.costOf(2));
        CHECKS.equal("costOf aa", (148 * 2 + 15) / 16, shop.costOf(Checks.word("aa")));
        CHECKS.equal("costOf aba", (148 * 2 + 114 * 3 + 15) / 16, shop.costOf(Checks.word("aba")));
        CHECKS.refused("costOf aaa", NoSuchElementException.class, shop, () -> shop.costOf(Checks.word("aaa")));
        CHECKS.refused("costOf c", NoSuchElementException.class, shop, () -> shop.costOf(3));
        CHECKS.notAWord("costOf", shop, shop::costOf);
        shop.setBasePrice(2, 999);
        CHECKS.equal("costOf b at the highest base price", (1898 * 3 + 15) / 16, shop.costOf(2));
        shop.cut(Checks.word("mmmmmmmmmmmm"), 1);
        shop.setBasePrice(13, 16);
        // 16, 16, 16, then 17, 19, 20, 22, 24, 25, 27, 28, 30 for 9 down to 1 pieces left
        CHECKS.equal("costOf twelve m", (260 * 5 + 15) / 16, shop.costOf(Checks.word("mmmmmmmmmmmm")));
        CHECKS.equal("costOf m without a remainder", 5, shop.costOf(13));
        shop.cut(2, 10);
        shop.setBasePrice(2, 11);
        CHECKS.equal("costOf b with a remainder of 1", 3, shop.costOf(2));
        shop.setBasePrice(2, 5);
        CHECKS.equal("costOf b with a remainder of 15", 1, shop.costOf(2));
    }

    private static void missingLetter() {
        AnagramButcher shop = new AnagramButcher();
        CHECKS.equal("missingLetter of zab", 1, shop.missingLetter(Checks.word("zab")));
        shop.cut(Checks.word("aabz"), 1);
        CHECKS.equal("missingLetter of zaba", AnagramButcher.NONE, shop.missingLetter(Checks.word("zaba")));
        CHECKS.equal("missingLetter of zzbb", 2, shop.missingLetter(Checks.word("zzbb")));
        CHECKS.equal("missingLetter of zz", 26, shop.missingLetter(Checks.word("zz")));
        CHECKS.equal("missingLetter of ycaaa", 1, shop.missingLetter(Checks.word("ycaaa")));
        CHECKS.equal("missingLetter of yc", 3, shop.missingLetter(Checks.word("yc")));
        CHECKS.equal("missingLetter of b", AnagramButcher.NONE, shop.missingLetter(2));
        CHECKS.notAWord("missingLetter", shop, shop::missingLetter);
    }

    private static void refusalOf() {
        AnagramButcher shop = Checks.shop("ab", "abc", "aa");
        shop.cut(Checks.word("ab"), 1);
        int cost = shop.costOf(Checks.word("ab"));
        CHECKS.equal("refusalOf an unknown word", 1, shop.refusalOf(Checks.word("ba"), MOST));
        CHECKS.equal("refusalOf an unknown word without pieces", 1, shop.refusalOf(Checks.word("xyz"), 0));
        CHECKS.equal("refusalOf a word without a piece", 2, shop.refusalOf(Checks.word("abc"), MOST));
        CHECKS.equal("refusalOf a word without a second piece", 2, shop.refusalOf(Checks.word("aa"), 0));
        CHECKS.equal("refusalOf a word for no money", 3, shop.refusalOf(Checks.word("ab"), 0));
        CHECKS.equal("refusalOf a word for a penny too few", 3, shop.refusalOf(Checks.word("ab"), cost - 1));
        CHECKS.equal("refusalOf a word for its cost", 0, shop.refusalOf(Checks.word("ab"), cost));
        CHECKS.equal("refusalOf a word for the most", 0, shop.refusalOf(Checks.word("ab"), MOST));
        CHECKS.notAWord("refusalOf", shop, number -> shop.refusalOf(number, 0));
        CHECKS.notAWord("refusalOf for a wrong budget", shop, number -> shop.refusalOf(number, -1));
        CHECKS.outOfRange("refusalOf for", 0, MOST, shop, budget -> shop.refusalOf(Checks.word("ab"), budget));
        CHECKS.outOfRange("refusalOf an unknown word for", 0, MOST, shop, budget -> shop.refusalOf(26, budget));
    }

    private static void sell() {
        AnagramButcher shop = Checks.shop("ab", "abc", "aa");
        shop.cut(Checks.word("abb"), 2);
        long word = Checks.word("ab");
        int cost = shop.costOf(word);
        CHECKS.refused("sell of an unknown word", IllegalStateException.class, shop, () -> shop.sell(1, MOST));
        CHECKS.refused("sell without a piece", IllegalStateException.class, shop,
                () -> shop.sell(Checks.word("abc"), MOST));
        CHECKS.refused("sell over the budget", IllegalStateException.class, shop, () -> shop.sell(word, cost - 1));
        CHECKS.notAWord("sell", shop, number -> shop.sell(number, MOST));
        CHECKS.outOfRange("sell for", 0, MOST, shop, budget -> shop.sell(word, budget));
        CHECKS.outOfRange("sell of an unknown word for", 0, MOST, shop, budget -> shop.sell(26, budget));
        CHECKS.equal("sell for the cost", cost, shop.sell(word, cost));
        CHECKS.equal("stockOf a", 1, shop.stockOf(1));
        CHECKS.equal("stockOf b", 3, shop.stockOf(2));
        CHECKS.equal("takings", cost, shop.takings());
        CHECKS.equal("receiptCount", 1, shop.receiptCount());
        CHECKS.equal("receiptWord", word, shop.receiptWord(0));
        CHECKS.equal("receiptPrice", cost, shop.receiptPrice(0));
        CHECKS.equal("isReturned", false, shop.isReturned(0));
        CHECKS.equal("soldPieces of a", 1, shop.soldPieces(1));
        CHECKS.equal("cameIn of a", 2, shop.cameIn(1));
        int second = shop.costOf(word);
        CHECKS.equal("a scarcer word is dearer", true, second > cost);
        CHECKS.equal("sell for the most", second, shop.sell(word, MOST));
        CHECKS.refused("sell of a piece that is gone", IllegalStateException.class, shop,
                () -> shop.sell(word, MOST));
        CHECKS.equal("takings of both", cost + second, shop.takings());
        CHECKS.equal("wordCount after sales", 3, shop.wordCount());
    }

    private static void affordableWords() {
        AnagramButcher shop = Checks.shop("a", "b", "ab", "abc", "aa");
        CHECKS.equal("affordableWords of an empty stock", 0, shop.affordableWords(MOST));
        shop.cut(Checks.word("ab"), 1);
        int[] costs = {shop.costOf(1), shop.costOf(2), shop.costOf(Checks.word("ab"))};
        CHECKS.equal("affordableWords for the most", 3, shop.affordableWords(MOST));
        CHECKS.equal("affordableWords for nothing", 0, shop.affordableWords(0));
        for (int i = 0; i < costs.length; i++) {
            CHECKS.equal("affordableWords for " + costs[i], i + 1, shop.affordableWords(costs[i]));
            CHECKS.equal("affordableWords for a penny less", i, shop.affordableWords(costs[i] - 1));
        }
        CHECKS.outOfRange("affordableWords", 0, MOST, shop, shop::affordableWords);
    }

    private static void bestWord() {
        AnagramButcher shop = Checks.shop("cb", "bd", "bc", "aa", "d", "zzz");
        CHECKS.equal("bestWord of an empty stock", 0, shop.bestWord(MOST));
        shop.cut(Checks.word("bcd"), 10);
        CHECKS.equal("bestWord of equal costs", Checks.word("bc"), shop.bestWord(MOST));
        shop.cut(4, 2);
        int cheapest = shop.costOf(Checks.word("bd"));
        CHECKS.equal("a word got cheaper", true, cheapest <= shop.costOf(Checks.word("bc")));
        shop.setBasePrice(4, 50);
        CHECKS.equal("bestWord of the smallest cost", Checks.word("bd"), shop.bestWord(MOST));
        CHECKS.equal("bestWord for less", 4, shop.bestWord(shop.costOf(Checks.word("bd")) - 1));
        CHECKS.equal("bestWord for too little", 0, shop.bestWord(shop.costOf(4) - 1));
        shop.cut(26, 3);
        CHECKS.equal("bestWord of the most letters", Checks.word("zzz"), shop.bestWord(MOST));
        CHECKS.equal("bestWord for nothing", 0, shop.bestWord(0));
        CHECKS.equal("bestWord of an empty dictionary", 0, new AnagramButcher().bestWord(MOST));
        CHECKS.equal("receiptCount after it", 0, shop.receiptCount());
        CHECKS.outOfRange("bestWord", 0, MOST, shop, shop::bestWord);
    }

    private static void spend() {
        AnagramButcher shop = Checks.shop("ab", "a", "c");
        CHECKS.equal("spend in an empty shop", 0, shop.spend(MOST));
        shop.cut(Checks.word("aab"), 1);
        int first = shop.costOf(Checks.word("ab"));
        CHECKS.equal("spend of too little", 0, shop.spend(shop.costOf(1) - 1));
        CHECKS.outOfRange("spend", 0, MOST, shop, shop::spend);
        // a with one piece left costs (76 * 2 + 15) / 16 = 10
        CHECKS.equal("spend of a penny too few for two", 1, shop.spend(first + 9));
        CHECKS.equal("receiptWord 0", Checks.word("ab"), shop.receiptWord(0));
        CHECKS.equal("receiptPrice 0", first, shop.receiptPrice(0));
        CHECKS.equal("stockOf a", 1, shop.stockOf(1));
        shop.takeBack(0);
        CHECKS.equal("spend of enough for two", 2, shop.spend(first + 10));
        CHECKS.equal("receiptCount", 3, shop.receiptCount());
        CHECKS.equal("receiptWord 2", 1, shop.receiptWord(2));
        CHECKS.equal("receiptPrice 2", 10, shop.receiptPrice(2));
        CHECKS.equal("totalStock", 0, shop.totalStock());
        CHECKS.equal("takings", first + 10 + first / 10, shop.takings());
    }

    private static void spendNoMoreThanTwenty() {
        AnagramButcher shop = Checks.shop("a", "bb");
        shop.cut(1, 50);
        shop.cut(2, 6);
        CHECKS.equal("spend of the most", 20, shop.spend(MOST));
        CHECKS.equal("receiptCount", 20, shop.receiptCount());
        CHECKS.equal("receiptWord 2", Checks.word("bb"), shop.receiptWord(2));
        CHECKS.equal("receiptWord 3", 1, shop.receiptWord(3));
        CHECKS.equal("stockOf a", 33, shop.stockOf(1));
        CHECKS.equal("spend again", 20, shop.spend(MOST));
        CHECKS.equal("spend of the rest", 13, shop.spend(MOST));
        CHECKS.equal("receiptCount then", 53, shop.receiptCount());
    }
}
