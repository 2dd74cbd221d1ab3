/** Promises 30 to 37. */
final class AccountsTest {
    private static final Checks CHECKS = new Checks("AccountsTest");
    private static final int MOST = 99999;

    public static void main(String[] args) {
        receipts();
        takeBack();
        takeBackTenths();
        takeBackUpToTheLimit();
        accountsByLetter();
        mostReceipts();
        beyondTheLimit();
        CHECKS.close();
    }

    private static void receipts() {
        AnagramButcher shop = Checks.shop("ab", "c");
        CHECKS.noIndex("receiptWord", 0, shop, shop::receiptWord);
        CHECKS.noIndex("receiptPrice", 0, shop, shop::receiptPrice);
        CHECKS.noIndex("isReturned", 0, shop, shop::isReturned);
        CHECKS.noIndex("takeBack", 0, shop, shop::takeBack);
        shop.cut(Checks.word("abcd"), 3);
        int cost = shop.sell(Checks.word("ab"), MOST);
        shop.cutToOrder(3, 1);
        shop.removeWord(3);
        CHECKS.equal("receiptCount", 2, shop.receiptCount());
        CHECKS.equal("receiptWord 0", Checks.word("ab"), shop.receiptWord(0));
        CHECKS.equal("receiptWord 1", 3, shop.receiptWord(1));
        CHECKS.equal("receiptPrice 0", cost, shop.receiptPrice(0));
        CHECKS.equal("receiptPrice 1", 2, shop.receiptPrice(1));
        CHECKS.equal("isReturned 0", false, shop.isReturned(0));
        CHECKS.noIndex("receiptWord of two", 2, shop, shop::receiptWord);
        CHECKS.noIndex("receiptPrice of two", 2, shop, shop::receiptPrice);
        CHECKS.noIndex("isReturned of two", 2, shop, shop::isReturned);
        CHECKS.noIndex("takeBack of two", 2, shop, shop::takeBack);
    }

    private static void takeBack() {
        AnagramButcher shop = Checks.shop("aab", "c");
        shop.cut(Checks.word("aab"), 1);
        int cost = shop.sell(Checks.word("aab"), MOST);
        shop.cutToOrder(3, 1);
        shop.removeWord(Checks.word("aab"));
        int refund = cost - cost / 10;
        CHECKS.equal("takeBack", refund, shop.takeBack(0));
        CHECKS.equal("isReturned 0", true, shop.isReturned(0));
        CHECKS.equal("isReturned 1", false, shop.isReturned(1));
        CHECKS.equal("stockOf a", 2, shop.stockOf(1));
        CHECKS.equal("stockOf b", 1, shop.stockOf(2));
        CHECKS.equal("stockOf c", 0, shop.stockOf(3));
        CHECKS.equal("takings", cost + 2 - refund, shop.takings());
        CHECKS.equal("receiptCount", 2, shop.receiptCount());
        CHECKS.equal("receiptWord 0", Checks.word("aab"), shop.receiptWord(0));
        CHECKS.equal("receiptPrice 0", cost, shop.receiptPrice(0));
        CHECKS.equal("soldPieces of a", 0, shop.soldPieces(1));
        CHECKS.equal("cameIn of a", 2, shop.cameIn(1));
        CHECKS.refused("takeBack again", IllegalStateException.class, shop, () -> shop.takeBack(0));
        CHECKS.equal("takeBack of an order", 2, shop.takeBack(1));
        CHECKS.equal("takings then", cost / 10, shop.takings());
        CHECKS.equal("stockOf c then", 1, shop.stockOf(3));
        CHECKS.equal("soldPieces of c", 0, shop.soldPieces(3));
    }

    private static void takeBackTenths() {
        AnagramButcher shop = new AnagramButcher();
        String[] words = {"abcde", "abcdefghij", "abcd", "abcdefghijkl", "abcdefghi"};
        int[] due = {10 - 1, 20 - 2, 8, 24 - 2, 18 - 1};
        for (int i = 0; i < words.length; i++) {
            shop.addWord(Checks.word(words[i]));
            shop.cutToOrder(Checks.word(words[i]), 1);
            CHECKS.equal("takeBack of " + words[i], due[i], shop.takeBack(i));
        }
        CHECKS.equal("takings", 6, shop.takings());
    }

    private static void takeBackUpToTheLimit() {
        AnagramButcher shop = Checks.shop("aa");
        shop.cutToOrder(Checks.word("aa"), 1);
        shop.cutToOrder(Checks.word("aa"), 1);
        for (int i = 0; i < 19; i++) {
            shop.cut(1, 50);
        }
        shop.cut(1, 47);
        CHECKS.equal("takeBack to 999", 4, shop.takeBack(0));
        CHECKS.refused("takeBack to 1001", IllegalStateException.class, shop, () -> shop.takeBack(1));
        CHECKS.equal("isReturned", false, shop.isReturned(1));
        CHECKS.equal("stockOf a", 999, shop.stockOf(1));
        CHECKS.refused("takeBack of a returned word with no room", IllegalStateException.class, shop,
                () -> shop.takeBack(0));
        shop.sell(Checks.word("aa"), MOST);
        CHECKS.equal("takeBack once there is room", 4, shop.takeBack(1));
    }

    private static void accountsByLetter() {
        AnagramButcher shop = Checks.shop("ab", "z");
        shop.cut(Checks.word("aabz"), 4);
        shop.sell(Checks.word("ab"), MOST);
        shop.sell(26, MOST);
        shop.cutToOrder(Checks.word("abaz"), 1);
        int[] cameIn = {10, 5, 5};
        int[] sold = {2, 2, 1};
        int[] stock = {8, 3, 4};
        int[] letters = {1, 2, 26};
        for (int i = 0; i < letters.length; i++) {
            CHECKS.equal("cameIn of " + letters[i], cameIn[i], shop.cameIn(letters[i]));
            CHECKS.equal("soldPieces of " + letters[i], sold[i], shop.soldPieces(letters[i]));
            CHECKS.equal("stockOf " + letters[i], stock[i], shop.stockOf(letters[i]));
        }
        CHECKS.equal("cameIn of c", 0, shop.cameIn(3));
        CHECKS.equal("takings", shop.receiptPrice(0) + shop.receiptPrice(1) + 4, shop.takings());
        CHECKS.outOfRange("cameIn", 1, 26, shop, shop::cameIn);
        CHECKS.outOfRange("soldPieces", 1, 26, shop, shop::soldPieces);
    }

    private static void mostReceipts() {
        AnagramButcher shop = new AnagramButcher();
        shop.addWord(1);
        int calls = 1;
        while (calls < 494) {
            shop.cut(Checks.word("aaaaaaaaaaaa"), 50);
            calls++;
            for (int i = 0; i < 30 && calls < 494; i++) {
                CHECKS.equal("spend", 20, shop.spend(MOST));
                calls++;
            }
        }
        int last = shop.receiptCount() - 1;
        CHECKS.equal("receiptCount", 9540, last + 1);
        CHECKS.equal("receiptWord of the last", 1, shop.receiptWord(last));
        int price = shop.receiptPrice(last);
        CHECKS.equal("takeBack of the last", price - price / 10, shop.takeBack(last));
        CHECKS.equal("isReturned of the last", true, shop.isReturned(last));
        CHECKS.equal("isReturned of the one before", false, shop.isReturned(last - 1));
    }

    /** What is answered after the 512th call is free, but nothing that the machine throws may come out. */
    private static void beyondTheLimit() {
        AnagramButcher shop = new AnagramButcher();
        shop.addWord(1);
        long carcass = Checks.word("aaaaaaaaaaaa");
        int machineThrows = 0;
        for (int i = 0; i < 4000; i++) {
            machineThrows += machineThrows(() -> shop.cut(carcass, 50));
            machineThrows += machineThrows(() -> shop.spend(MOST));
            machineThrows += machineThrows(() -> shop.cutToOrder(carcass, 3));
            machineThrows += machineThrows(() -> shop.sell(1, MOST));
        }
        CHECKS.equal("throws of the machine in long use", 0, machineThrows);
    }

    private static int machineThrows(Checks.Call call) {
        try {
            call.answer();
        } catch (IllegalStateException written) {
            return 0;
        } catch (RuntimeException thrown) {
            return 1;
        }
        return 0;
    }
}
