/** Promises 30 to 37, sentence by sentence. */
final class AccountsTest {
    private static final Checks CHECKS = new Checks("AccountsTest");
    private static final int MOST = 99999;
    private static final int B = 2;

    public static void main(String[] args) {
        CHECKS.promise(30, "Returns the number of receipts", AccountsTest::receiptCount);
        CHECKS.promise(30, "those of returned words included", AccountsTest::receiptCountOfReturned);
        CHECKS.promise(30, "the number of receipts, far more than words", AccountsTest::manyReceipts);

        CHECKS.promise(31, "Returns the word", AccountsTest::receiptWord);
        CHECKS.promise(31, "IndexOutOfBoundsException if there is no such receipt", AccountsTest::receiptWordNoIndex);
        CHECKS.promise(32, "Returns what was paid", AccountsTest::receiptPrice);
        CHECKS.promise(32, "IndexOutOfBoundsException if there is no such receipt", AccountsTest::receiptPriceNoIndex);
        CHECKS.promise(33, "Returns true if the word was returned", AccountsTest::isReturned);
        CHECKS.promise(33, "IndexOutOfBoundsException if there is no such receipt", AccountsTest::isReturnedNoIndex);

        CHECKS.promise(34, "its pieces come to the stock", AccountsTest::takeBackPieces);
        CHECKS.promise(34, "minus a tenth of it (the tenth is rounded down)", AccountsTest::takeBackTenths);
        CHECKS.promise(34, "Takes back the word of a receipt, which need not be in the dictionary any more",
                AccountsTest::takeBackOfARemovedWord);
        CHECKS.promise(34, "IndexOutOfBoundsException if there is no such receipt", AccountsTest::takeBackNoIndex);
        CHECKS.promise(34, "IllegalStateException if the word was returned already", AccountsTest::takeBackAgain);
        CHECKS.promise(34, "if there would be more than 999 pieces of a letter", AccountsTest::takeBackUpToTheLimit);

        CHECKS.promise(35, "Returns all that was paid, minus all refunds", AccountsTest::takings);
        CHECKS.promise(35, "all that was paid, nothing at first", AccountsTest::noTakings);

        CHECKS.promise(36, "the number of pieces that have come in by cut() and cutToOrder()", AccountsTest::cameIn);
        CHECKS.promise(36, "those that were sold from the carcass included", AccountsTest::cameInAndSold);
        CHECKS.promise(36, "have come in, more than a stock can have", AccountsTest::cameInBeyondTheStock);
        CHECKS.promise(36, "IllegalArgumentException if letter is out of range", AccountsTest::cameInOutOfRange);

        CHECKS.promise(37, "the number of pieces of the letter that were sold", AccountsTest::soldPieces);
        CHECKS.promise(37, "and have not come back", AccountsTest::soldPiecesThatCameBack);
        CHECKS.promise(37, "were sold, more than a stock can have", AccountsTest::soldBeyondTheStock);
        CHECKS.promise(37, "IllegalArgumentException if letter is out of range", AccountsTest::soldPiecesOutOfRange);
        CHECKS.close();
    }

    /** Answers a shop that sold ab from the stock, c to order, and took back nothing. */
    private static AnagramButcher soldShop() {
        AnagramButcher shop = Checks.shop("ab", "c");
        shop.cut(Checks.word("abcd"), 3);
        shop.sell(Checks.word("ab"), MOST);
        shop.cutToOrder(3, 1);
        return shop;
    }

    private static AnagramButcher returnedShop() {
        AnagramButcher shop = soldShop();
        shop.takeBack(0);
        return shop;
    }

    // ---- Promises 30 to 33

    private static void receiptCount() {
        AnagramButcher shop = Checks.shop("ab", "c");
        CHECKS.equal("receiptCount of none", 0, shop.receiptCount());
        shop.cut(Checks.word("abcd"), 3);
        CHECKS.equal("receiptCount after a cut", 0, shop.receiptCount());
        shop.sell(Checks.word("ab"), MOST);
        CHECKS.equal("receiptCount after a sale", 1, shop.receiptCount());
        Checks.answerOf(shop, s -> s.sell(Checks.word("ab"), 0));
        CHECKS.equal("receiptCount after a refused sale", 1, shop.receiptCount());
        shop.cutToOrder(Checks.word("abcc"), 3);
        CHECKS.equal("receiptCount after an order of three words", 4, shop.receiptCount());
        shop.cutToOrder(26, 3);
        CHECKS.equal("receiptCount after an order of none", 4, shop.receiptCount());
        CHECKS.equal("spend", 5, shop.spend(MOST));
        CHECKS.equal("receiptCount after it", 9, shop.receiptCount());
        CHECKS.equal("spend of nothing", 0, shop.spend(0));
        CHECKS.equal("receiptCount after that", 9, shop.receiptCount());
    }

    private static void receiptCountOfReturned() {
        AnagramButcher shop = soldShop();
        shop.takeBack(1);
        CHECKS.equal("receiptCount after a return", 2, shop.receiptCount());
        shop.takeBack(0);
        CHECKS.equal("receiptCount after both returns", 2, shop.receiptCount());
        shop.sell(3, MOST);
        CHECKS.equal("receiptCount after another sale", 3, shop.receiptCount());
        CHECKS.equal("receiptWord of it", 3, shop.receiptWord(2));
    }

    private static void manyReceipts() {
        AnagramButcher shop = Checks.shop("a", "b");
        int calls = 2;
        int receipts = 0;
        while (calls < 494) {
            shop.cut(Checks.word("aaaaaaaaaaaa"), 50);
            calls++;
            for (int i = 0; i < 30 && calls < 494; i++) {
                CHECKS.equal("spend", 20, shop.spend(MOST));
                calls++;
                receipts += 20;
            }
        }
        CHECKS.equal("receiptCount", receipts, shop.receiptCount());
        CHECKS.equal("receiptWord of the last", 1, shop.receiptWord(receipts - 1));
        int price = shop.receiptPrice(receipts - 1);
        CHECKS.equal("takeBack of the last", price - price / 10, shop.takeBack(receipts - 1));
        CHECKS.equal("isReturned of the last", true, shop.isReturned(receipts - 1));
        CHECKS.equal("isReturned of the one before", false, shop.isReturned(receipts - 2));
        CHECKS.equal("receiptWord behind the last", "throws.java.lang.IndexOutOfBoundsException",
                Checks.answerOf(shop, s -> s.receiptWord(s.receiptCount())));
    }

    private static void receiptWord() {
        AnagramButcher shop = soldShop();
        CHECKS.equal("receiptWord 0", Checks.word("ab"), shop.receiptWord(0));
        CHECKS.equal("receiptWord 1", 3, shop.receiptWord(1));
        shop.takeBack(0);
        shop.removeWord(Checks.word("ab"));
        shop.removeWord(3);
        CHECKS.equal("receiptWord 0 of a returned and removed word", Checks.word("ab"), shop.receiptWord(0));
        CHECKS.equal("receiptWord 1 of a removed word", 3, shop.receiptWord(1));
        AnagramButcher twelve = Checks.shop("zzzzzzzzzzzz");
        twelve.cutToOrder(Checks.word("zzzzzzzzzzzz"), 1);
        CHECKS.equal("receiptWord of twelve letters", Checks.word("zzzzzzzzzzzz"), twelve.receiptWord(0));
    }

    private static void receiptWordNoIndex() {
        CHECKS.noIndex("receiptWord of none", 0, AnagramButcher::new, AnagramButcher::receiptWord);
        CHECKS.noIndex("receiptWord of two", 2, AccountsTest::soldShop, AnagramButcher::receiptWord);
        CHECKS.noIndex("receiptWord of two with a return", 2, AccountsTest::returnedShop, AnagramButcher::receiptWord);
    }

    private static void receiptPrice() {
        AnagramButcher shop = soldShop();
        int cost = shop.takings() - 2;
        CHECKS.equal("receiptPrice 0", cost, shop.receiptPrice(0));
        CHECKS.equal("receiptPrice 1", 2, shop.receiptPrice(1));
        shop.setBasePrice(1, 999);
        shop.takeBack(0);
        CHECKS.equal("receiptPrice 0 of a returned word", cost, shop.receiptPrice(0));
        AnagramButcher dear = Checks.shop("wwwwwwwwwwww");
        dear.cut(Checks.word("wwwwwwwwwwww"), 1);
        dear.setBasePrice(23, 999);
        CHECKS.equal("sell of the dearest word", 5150, dear.sell(Checks.word("wwwwwwwwwwww"), MOST));
        CHECKS.equal("receiptPrice of it", 5150, dear.receiptPrice(0));
    }

    private static void receiptPriceNoIndex() {
        CHECKS.noIndex("receiptPrice of none", 0, AnagramButcher::new, AnagramButcher::receiptPrice);
        CHECKS.noIndex("receiptPrice of two", 2, AccountsTest::soldShop, AnagramButcher::receiptPrice);
        CHECKS.noIndex("receiptPrice of two with a return", 2, AccountsTest::returnedShop,
                AnagramButcher::receiptPrice);
    }

    private static void isReturned() {
        AnagramButcher shop = soldShop();
        CHECKS.equal("isReturned 0", false, shop.isReturned(0));
        CHECKS.equal("isReturned 1", false, shop.isReturned(1));
        shop.takeBack(1);
        CHECKS.equal("isReturned 0 after the other's return", false, shop.isReturned(0));
        CHECKS.equal("isReturned 1 after its return", true, shop.isReturned(1));
        Checks.answerOf(shop, s -> s.takeBack(1));
        CHECKS.equal("isReturned 1 after a refused return", true, shop.isReturned(1));
        shop.takeBack(0);
        CHECKS.equal("isReturned 0 after its return", true, shop.isReturned(0));
        shop.sell(Checks.word("ab"), MOST);
        CHECKS.equal("isReturned 0 after another sale of the word", true, shop.isReturned(0));
        CHECKS.equal("isReturned 2", false, shop.isReturned(2));
    }

    private static void isReturnedNoIndex() {
        CHECKS.noIndex("isReturned of none", 0, AnagramButcher::new, AnagramButcher::isReturned);
        CHECKS.noIndex("isReturned of two", 2, AccountsTest::soldShop, AnagramButcher::isReturned);
        CHECKS.noIndex("isReturned of two with a return", 2, AccountsTest::returnedShop, AnagramButcher::isReturned);
    }

    // ---- Promise 34

    private static void takeBackPieces() {
        AnagramButcher shop = Checks.shop("aab", "c");
        shop.cut(Checks.word("aabc"), 1);
        shop.sell(Checks.word("aab"), MOST);
        shop.cutToOrder(3, 1);
        CHECKS.equal("totalStock before", 1, shop.totalStock());
        shop.takeBack(0);
        CHECKS.equal("stockOf a", 2, shop.stockOf(1));
        CHECKS.equal("stockOf b", 1, shop.stockOf(B));
        CHECKS.equal("stockOf c", 1, shop.stockOf(3));
        CHECKS.equal("takeBack of an order", 2, shop.takeBack(1));
        CHECKS.equal("stockOf c then", 2, shop.stockOf(3));
        CHECKS.equal("totalStock then", 5, shop.totalStock());
        CHECKS.equal("wordCount", 2, shop.wordCount());
    }

    private static void takeBackTenths() {
        // With ten pieces and more, b costs 3 sixteenths of the base price.
        int[] basePrices = {5, 48, 53, 58, 101, 106, 528, 533};
        int[] prices = {1, 9, 10, 11, 19, 20, 99, 100};
        int[] due = {1, 9, 9, 10, 18, 18, 90, 90};
        AnagramButcher shop = Checks.shop("b");
        shop.cut(B, 30);
        int takings = 0;
        for (int i = 0; i < prices.length; i++) {
            shop.setBasePrice(B, basePrices[i]);
            CHECKS.equal("sell of b", prices[i], shop.sell(B, MOST));
            CHECKS.equal("takeBack of what cost " + prices[i], due[i], shop.takeBack(i));
            takings += prices[i] - due[i];
            CHECKS.equal("takings", takings, shop.takings());
        }
        String[] words = {"abcde", "abcd", "abcdefghijkl", "abcdefghi", "abcdefghij"};
        int[] dueForOrders = {10 - 1, 8, 24 - 2, 18 - 1, 20 - 2};
        for (int i = 0; i < words.length; i++) {
            AnagramButcher orders = Checks.shop(words[i]);
            orders.cutToOrder(Checks.word(words[i]), 1);
            CHECKS.equal("takeBack of " + words[i], dueForOrders[i], orders.takeBack(0));
        }
    }

    private static void takeBackOfARemovedWord() {
        AnagramButcher shop = soldShop();
        int cost = shop.receiptPrice(0);
        shop.removeWord(Checks.word("ab"));
        CHECKS.equal("takeBack of a removed word", cost - cost / 10, shop.takeBack(0));
        CHECKS.equal("hasWord of it", false, shop.hasWord(Checks.word("ab")));
    }

    private static void takeBackNoIndex() {
        CHECKS.noIndex("takeBack of none", 0, AnagramButcher::new, AnagramButcher::takeBack);
        CHECKS.noIndex("takeBack of two", 2, AccountsTest::soldShop, AnagramButcher::takeBack);
        CHECKS.noIndex("takeBack of two with a return", 2, AccountsTest::returnedShop, AnagramButcher::takeBack);
        CHECKS.equal("takeBack of the last of two", 2, soldShop().takeBack(1));
    }

    private static void takeBackAgain() {
        CHECKS.refused("takeBack again", IllegalStateException.class, AccountsTest::returnedShop,
                shop -> shop.takeBack(0));
        CHECKS.equal("takeBack of the other", 2, returnedShop().takeBack(1));
        CHECKS.refused("takeBack again after another sale of the word", IllegalStateException.class, () -> {
            AnagramButcher shop = returnedShop();
            shop.sell(Checks.word("ab"), MOST);
            return shop;
        }, shop -> shop.takeBack(0));
        CHECKS.refused("takeBack again with no room", IllegalStateException.class, () -> {
            AnagramButcher shop = returnedShop();
            Checks.bring(shop, 'a', 996);
            return shop;
        }, shop -> shop.takeBack(0));
    }

    /** Answers a shop that sold the word and has so many pieces of a letter. */
    private static AnagramButcher soldAndStocked(String word, char letter, int pieces) {
        AnagramButcher shop = Checks.shop(word);
        shop.cutToOrder(Checks.word(word), 1);
        Checks.bring(shop, letter, pieces);
        return shop;
    }

    private static void takeBackUpToTheLimit() {
        String[] words = {"a", "z", "aa", "ab", "za", "aaaaaaaaaaaa", "bmz", "abcmmm"};
        char[] letters = {'a', 'z', 'a', 'a', 'z', 'a', 'b', 'm'};
        int[] pieces = {1, 1, 2, 1, 1, 12, 1, 3};
        for (int i = 0; i < words.length; i++) {
            String word = words[i];
            char letter = letters[i];
            int room = 999 - pieces[i];
            AnagramButcher shop = soldAndStocked(word, letter, room);
            CHECKS.equal("takeBack of " + word + " to " + room, 2 * word.length() - 2 * word.length() / 10,
                    shop.takeBack(0));
            CHECKS.equal("stockOf " + letter, 999, shop.stockOf(Checks.letter(letter)));
            CHECKS.refused("takeBack of " + word + " to " + (room + 1), IllegalStateException.class,
                    () -> soldAndStocked(word, letter, room + 1), full -> full.takeBack(0));
        }
        AnagramButcher shop = soldAndStocked("a", 'a', 999);
        Checks.answerOf(shop, s -> s.takeBack(0));
        CHECKS.equal("isReturned after a refused return", false, shop.isReturned(0));
        CHECKS.equal("takings after a refused return", 2, shop.takings());
        shop.sell(1, MOST);
        CHECKS.equal("takeBack once there is room", 2, shop.takeBack(0));
    }

    // ---- Promises 35 to 37

    private static void takings() {
        AnagramButcher shop = Checks.shop("ab", "abcde");
        shop.cut(Checks.word("abcd"), 3);
        int cost = shop.sell(Checks.word("ab"), MOST);
        CHECKS.equal("takings after a sale", cost, shop.takings());
        shop.cutToOrder(Checks.word("edcba"), 1);
        CHECKS.equal("takings after an order", cost + 10, shop.takings());
        shop.takeBack(1);
        CHECKS.equal("takings after the order's return", cost + 1, shop.takings());
        Checks.answerOf(shop, s -> s.takeBack(1));
        CHECKS.equal("takings after a refused return", cost + 1, shop.takings());
        shop.takeBack(0);
        CHECKS.equal("takings after the sale's return", cost / 10 + 1, shop.takings());
        CHECKS.equal("spend", 4, shop.spend(MOST));
        int spent = 0;
        for (int i = 2; i < 6; i++) {
            spent += shop.receiptPrice(i);
        }
        CHECKS.equal("takings after spending", cost / 10 + 1 + spent, shop.takings());
    }

    private static void noTakings() {
        AnagramButcher shop = Checks.shop("a");
        CHECKS.equal("takings of nothing", 0, shop.takings());
        shop.cut(1, 50);
        CHECKS.equal("takings after a cut", 0, shop.takings());
        Checks.answerOf(shop, s -> s.sell(1, 0));
        CHECKS.equal("takings after a refused sale", 0, shop.takings());
        shop.cutToOrder(26, 1);
        CHECKS.equal("takings after an order of leftovers", 0, shop.takings());
        shop.cutToOrder(1, 1);
        CHECKS.equal("takings after an order", 2, shop.takings());
        shop.takeBack(0);
        CHECKS.equal("takings after its return", 0, shop.takings());
    }

    private static void cameIn() {
        AnagramButcher shop = Checks.shop("ab");
        CHECKS.equal("cameIn of a at first", 0, shop.cameIn(1));
        shop.cut(Checks.word("aabz"), 4);
        CHECKS.equal("cameIn of a", 8, shop.cameIn(1));
        CHECKS.equal("cameIn of z", 4, shop.cameIn(26));
        CHECKS.equal("cameIn of c", 0, shop.cameIn(3));
        shop.sell(Checks.word("ab"), MOST);
        CHECKS.equal("cameIn of a after a sale", 8, shop.cameIn(1));
        shop.takeBack(0);
        CHECKS.equal("cameIn of a after a return", 8, shop.cameIn(1));
        Checks.answerOf(shop, s -> s.cut(1, 51));
        CHECKS.equal("cameIn of a after a refused cut", 8, shop.cameIn(1));
    }

    private static void cameInAndSold() {
        AnagramButcher shop = Checks.shop("ab", "z");
        shop.cutToOrder(Checks.word("abaz"), 2);
        CHECKS.equal("cameIn of a, sold and left over", 2, shop.cameIn(1));
        CHECKS.equal("cameIn of b, sold", 1, shop.cameIn(B));
        CHECKS.equal("cameIn of z, sold", 1, shop.cameIn(26));
        CHECKS.equal("stockOf b", 0, shop.stockOf(B));
        shop.takeBack(0);
        CHECKS.equal("cameIn of b after its return", 1, shop.cameIn(B));
        shop.cutToOrder(3, 1);
        CHECKS.equal("cameIn of c, left over", 1, shop.cameIn(3));
    }

    private static void cameInBeyondTheStock() {
        AnagramButcher shop = Checks.shop("aaaaaaaaaaaa");
        Checks.bring(shop, 'a', 999);
        CHECKS.equal("cameIn of the most pieces", 999, shop.cameIn(1));
        Checks.answerOf(shop, s -> s.cut(1, 1));
        CHECKS.equal("cameIn after a refused cut", 999, shop.cameIn(1));
        shop.cutToOrder(Checks.word("aaaaaaaaaaaa"), 1);
        CHECKS.equal("cameIn after an order", 1011, shop.cameIn(1));
        shop.sell(Checks.word("aaaaaaaaaaaa"), MOST);
        shop.cut(1, 12);
        CHECKS.equal("cameIn after another cut", 1023, shop.cameIn(1));
        CHECKS.equal("stockOf a", 999, shop.stockOf(1));
    }

    private static void cameInOutOfRange() {
        CHECKS.outOfRange("cameIn", 1, 26, AccountsTest::soldShop, AnagramButcher::cameIn);
        AnagramButcher shop = new AnagramButcher();
        shop.cut(Checks.word("az"), 7);
        CHECKS.equal("cameIn of 1", 7, shop.cameIn(1));
        CHECKS.equal("cameIn of 26", 7, shop.cameIn(26));
    }

    private static void soldPieces() {
        AnagramButcher shop = Checks.shop("aab", "z");
        CHECKS.equal("soldPieces of a at first", 0, shop.soldPieces(1));
        shop.cut(Checks.word("aabz"), 4);
        CHECKS.equal("soldPieces of a after a cut", 0, shop.soldPieces(1));
        shop.sell(Checks.word("aab"), MOST);
        CHECKS.equal("soldPieces of a after a sale", 2, shop.soldPieces(1));
        CHECKS.equal("soldPieces of b after a sale", 1, shop.soldPieces(B));
        CHECKS.equal("soldPieces of z after a sale", 0, shop.soldPieces(26));
        shop.cutToOrder(Checks.word("zzabac"), 2);
        CHECKS.equal("soldPieces of a after an order", 4, shop.soldPieces(1));
        CHECKS.equal("soldPieces of z after an order", 1, shop.soldPieces(26));
        CHECKS.equal("soldPieces of c, left over", 0, shop.soldPieces(3));
        Checks.answerOf(shop, s -> s.sell(26, 0));
        CHECKS.equal("soldPieces of z after a refused sale", 1, shop.soldPieces(26));
    }

    private static void soldPiecesThatCameBack() {
        AnagramButcher shop = soldShop();
        shop.sell(Checks.word("ab"), MOST);
        CHECKS.equal("soldPieces of a", 2, shop.soldPieces(1));
        shop.takeBack(0);
        CHECKS.equal("soldPieces of a after a return", 1, shop.soldPieces(1));
        CHECKS.equal("soldPieces of c after another word's return", 1, shop.soldPieces(3));
        Checks.answerOf(shop, s -> s.takeBack(0));
        CHECKS.equal("soldPieces of a after a refused return", 1, shop.soldPieces(1));
        shop.takeBack(2);
        CHECKS.equal("soldPieces of a after the last return", 0, shop.soldPieces(1));
        shop.takeBack(1);
        CHECKS.equal("soldPieces of c after an order's return", 0, shop.soldPieces(3));
    }

    private static void soldBeyondTheStock() {
        AnagramButcher shop = Checks.shop("aaaaaaaaaaaa");
        for (int i = 1; i <= 84; i++) {
            shop.cutToOrder(Checks.word("aaaaaaaaaaaa"), 1);
            CHECKS.equal("soldPieces of a after order " + i, 12 * i, shop.soldPieces(1));
        }
        CHECKS.equal("stockOf a", 0, shop.stockOf(1));
    }

    private static void soldPiecesOutOfRange() {
        CHECKS.outOfRange("soldPieces", 1, 26, AccountsTest::soldShop, AnagramButcher::soldPieces);
        AnagramButcher shop = Checks.shop("a", "z");
        shop.cutToOrder(Checks.word("aazz"), 3);
        CHECKS.equal("soldPieces of 1", 2, shop.soldPieces(1));
        CHECKS.equal("soldPieces of 26", 1, shop.soldPieces(26));
    }
}
