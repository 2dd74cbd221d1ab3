/** What LANGUAGE.md asks of any call in any state, far beyond the document's 512 calls too. */
final class LongUseTest {
    private static final Checks CHECKS = new Checks("LongUseTest");
    private static final int CALLS = 4000;
    private static final int MOST = 99999;

    /** What is answered after the 512th call is free, but nothing that the machine throws may come out. */
    public static void main(String[] args) {
        AnagramButcher shop = Checks.shop("a");
        long carcass = Checks.word("aaaaaaaaaaaa");
        int machineThrows = 0;
        for (int i = 0; i < CALLS; i++) {
            machineThrows += machineThrows(shop, s -> s.cut(carcass, 50));
            machineThrows += machineThrows(shop, s -> s.spend(MOST));
            machineThrows += machineThrows(shop, s -> s.cutToOrder(carcass, 3));
            machineThrows += machineThrows(shop, s -> s.sell(1, MOST));
        }
        CHECKS.equal("throws of the machine in long use", 0, machineThrows);
        CHECKS.close();
    }

    private static int machineThrows(AnagramButcher shop, Checks.Call call) {
        Object answer = Checks.answerOf(shop, call);
        boolean written = answer.equals("throws." + IllegalStateException.class.getName());
        return answer instanceof String && !written ? 1 : 0;
    }
}
