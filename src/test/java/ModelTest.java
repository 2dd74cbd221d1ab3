import java.util.ArrayList;
import java.util.List;

/** Runs of 512 calls, each call's answer compared with that of PlainShop. */
final class ModelTest {
    private static final Checks CHECKS = new Checks("ModelTest");
    private static final int RUNS = 300;
    private static final int CALLS = 512;
    private static final String[] ALPHABETS = {"ab", "abc", "aemt", "aeinst", "abcdefghijklmnopqrstuvwxyz", "jmwz"};
    private static final int[] EXTREMES = {0, -1, 1, 20, 26, 27, 50, 51, 60, 999, 1000, 99999, 100000,
        Integer.MAX_VALUE, Integer.MIN_VALUE};
    private static final String[] METHODS = {
        "addWord", "removeWord", "wordCount", "wordAt", "hasWord", "anagramCount", "anagramAt",
        "largestAnagramGroup", "fittingCount", "fittingWord", "cut", "stockOf", "totalStock", "setBasePrice",
        "basePriceOf", "presentPriceOf", "weightOf", "costOf", "missingLetter", "refusalOf", "sell",
        "affordableWords", "bestWord", "spend", "planLength", "planWord", "leftoverCount", "cutToOrder",
        "receiptCount", "receiptWord", "receiptPrice", "isReturned", "takeBack", "takings", "cameIn", "soldPieces",
    };
    private static final String[] CHANGES = {
        "addWord", "addWord", "addWord", "addWord", "cut", "cut", "cut", "sell", "spend", "cutToOrder",
        "takeBack", "setBasePrice", "removeWord",
    };

    private final Numbers numbers;
    private final String alphabet;
    private final int longest;
    private final boolean manyCopies;
    private final List<Long> words = new ArrayList<>();

    private ModelTest(int run) {
        numbers = new Numbers(run);
        alphabet = ALPHABETS[run % ALPHABETS.length];
        longest = 1 + numbers.below(run % 2 == 0 ? 4 : 12);
        manyCopies = numbers.below(3) == 0;
    }

    public static void main(String[] args) {
        for (int run = 0; run < RUNS; run++) {
            CHECKS.equal("run " + run, "as PlainShop", new ModelTest(run).firstDifference());
        }
        CHECKS.close();
    }

    private String firstDifference() {
        AnagramButcher shop = new AnagramButcher();
        PlainShop plain = new PlainShop();
        for (int i = 0; i < CALLS; i++) {
            String method = numbers.below(2) == 0 ? numbers.of(METHODS) : numbers.of(CHANGES);
            long word = word();
            int first = first(method);
            int second = numbers.below(20) == 0 ? extreme() : numbers.below(method.equals("planWord") ? 4 : 1000);
            String due = plain.call(method, word, first, second);
            String got = call(shop, method, word, first, second);
            if (!got.equals(due)) {
                return "call " + i + ", " + method + " " + word + " " + first + " " + second + ": " + got
                        + ", due is " + due;
            }
        }
        return "as PlainShop";
    }

    private long word() {
        int kind = numbers.below(24);
        if (kind == 0) {
            return Checks.NOT_WORDS[numbers.below(Checks.NOT_WORDS.length)];
        }
        if (kind < 12 && !words.isEmpty()) {
            return words.get(numbers.below(words.size()));
        }
        int length = kind < 16 ? 12 : 1 + numbers.below(longest);
        long word = 0;
        for (int i = 0; i < length; i++) {
            word = word * 32 + alphabet.charAt(numbers.below(alphabet.length())) - 96;
        }
        words.add(word);
        return word;
    }

    private int first(String method) {
        if (numbers.below(20) == 0) {
            return extreme();
        }
        return switch (method) {
            case "cut" -> manyCopies ? 40 + numbers.below(11) : 1 + numbers.below(4);
            case "stockOf", "setBasePrice", "basePriceOf", "presentPriceOf", "cameIn", "soldPieces" ->
                alphabet.charAt(numbers.below(alphabet.length())) - 96;
            case "planLength", "planWord", "leftoverCount", "cutToOrder" -> 1 + numbers.below(3);
            case "refusalOf", "sell", "affordableWords", "bestWord", "spend" ->
                numbers.below(3) == 0 ? 99999 : numbers.below(400);
            case "anagramAt" -> numbers.below(3);
            default -> numbers.below(40);
        };
    }

    private int extreme() {
        return EXTREMES[numbers.below(EXTREMES.length)];
    }

    private static String call(AnagramButcher shop, String method, long word, int first, int second) {
        try {
            return Long.toString(answer(shop, method, word, first, second));
        } catch (RuntimeException thrown) {
            return thrown.getClass().getSimpleName();
        }
    }

    private static long answer(AnagramButcher shop, String method, long word, int first, int second) {
        return switch (method) {
            case "addWord" -> shop.addWord(word);
            case "removeWord" -> shop.removeWord(word);
            case "wordCount" -> shop.wordCount();
            case "wordAt" -> shop.wordAt(first);
            case "hasWord" -> shop.hasWord(word) ? 1 : 0;
            case "anagramCount" -> shop.anagramCount(word);
            case "anagramAt" -> shop.anagramAt(word, first);
            case "largestAnagramGroup" -> shop.largestAnagramGroup();
            case "fittingCount" -> shop.fittingCount(word);
            case "fittingWord" -> shop.fittingWord(word, first);
            case "cut" -> shop.cut(word, first);
            case "stockOf" -> shop.stockOf(first);
            case "totalStock" -> shop.totalStock();
            case "setBasePrice" -> shop.setBasePrice(first, second);
            case "basePriceOf" -> shop.basePriceOf(first);
            case "presentPriceOf" -> shop.presentPriceOf(first);
            case "weightOf" -> shop.weightOf(word);
            case "costOf" -> shop.costOf(word);
            case "missingLetter" -> shop.missingLetter(word);
            case "refusalOf" -> shop.refusalOf(word, first);
            case "sell" -> shop.sell(word, first);
            case "affordableWords" -> shop.affordableWords(first);
            case "bestWord" -> shop.bestWord(first);
            case "spend" -> shop.spend(first);
            case "planLength" -> shop.planLength(word, first);
            case "planWord" -> shop.planWord(word, first, second);
            case "leftoverCount" -> shop.leftoverCount(word, first);
            case "cutToOrder" -> shop.cutToOrder(word, first);
            case "receiptCount" -> shop.receiptCount();
            case "receiptWord" -> shop.receiptWord(first);
            case "receiptPrice" -> shop.receiptPrice(first);
            case "isReturned" -> shop.isReturned(first) ? 1 : 0;
            case "takeBack" -> shop.takeBack(first);
            case "takings" -> shop.takings();
            case "cameIn" -> shop.cameIn(first);
            case "soldPieces" -> shop.soldPieces(first);
            default -> throw new AssertionError(method);
        };
    }

    /** Numbers that look chosen by chance and are the same in each run of the test. */
    private static final class Numbers {
        private long state;

        Numbers(int seed) {
            state = seed * 7919L + 17;
        }

        int below(int bound) {
            state = state * 6364136223846793005L + 1442695040888963407L;
            return (int) Math.floorMod(state >>> 33, (long) bound);
        }

        String of(String[] texts) {
            return texts[below(texts.length)];
        }
    }
}
