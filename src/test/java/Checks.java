import java.util.ArrayList;
import java.util.List;
import java.util.Objects;
import java.util.function.Supplier;

/** Runs the tests of promises, counts their checks, prints those that fail, and ends the program. */
final class Checks {
    /** A call whose answer is checked. */
    interface Call {
        Object on(AnagramButcher shop);
    }

    /** A call with a word, which may be none. */
    interface WordCall {
        Object on(AnagramButcher shop, long number);
    }

    /** A call with a number that may be out of range. */
    interface NumberCall {
        Object on(AnagramButcher shop, int number);
    }

    /** What is not a word: no letter, a letter 0 or above 26, a sign, a thirteenth letter. */
    static final long[] NOT_WORDS = {
        0, -1, Long.MIN_VALUE, Long.MAX_VALUE, 27, 31, 32, 1024, 33 * 32, (1L << 40) + 1,
        word("cat") * 32 + 27, word("a") * 1024 + 2, 31L * 32 + 1, 1L << 60, (1L << 60) + word("abcdefghijkl"),
        word("abcdefghijkl") * 32 + 1, -word("cat"), word("cat") | Long.MIN_VALUE, word("a") | 1L << 60,
        word("a") | 1L << 62, word("zzzzzzzzzzzz") + 1, word("aaaaaaaaaaaa") - 1,
    };

    /** The words next to those that are none: the first and the last letter, alone and twelve times, and between. */
    static final String[] EDGE_WORDS = {"a", "z", "aa", "az", "za", "aaaaaaaaaaaa", "zzzzzzzzzzzz", "azazazazazaz"};

    /** A dictionary of so many words is full. */
    static final int MOST_WORDS = 60;

    private final String test;
    private String promise = "";
    private int passed;
    private int failed;

    Checks(String test) {
        this.test = test;
    }

    /** Answers the number of a word. */
    static long word(String letters) {
        long number = 0;
        for (char letter : letters.toCharArray()) {
            number = number * 32 + (letter - 'a' + 1);
        }
        return number;
    }

    static int letter(char letter) {
        return letter - 'a' + 1;
    }

    static AnagramButcher shop(String... words) {
        AnagramButcher shop = new AnagramButcher();
        for (String word : words) {
            shop.addWord(word(word));
        }
        return shop;
    }

    /** Answers a shop with the 60 words aa, ab .. az, ba .. ch. */
    static AnagramButcher fullShop() {
        AnagramButcher shop = new AnagramButcher();
        for (int i = 0; i < MOST_WORDS; i++) {
            shop.addWord(pair(i));
        }
        return shop;
    }

    /** Answers the word with this index in the full shop. */
    static long pair(int index) {
        return (1 + index / 26) * 32L + 1 + index % 26;
    }

    /** Cuts as few words as will bring so many pieces of a letter. */
    static void bring(AnagramButcher shop, char letter, int pieces) {
        long twelve = word(String.valueOf(letter).repeat(12));
        int dozens = pieces / 12;
        while (dozens > 0) {
            shop.cut(twelve, Math.min(dozens, 50));
            dozens -= Math.min(dozens, 50);
        }
        if (pieces % 12 > 0) {
            shop.cut(letter(letter), pieces % 12);
        }
    }

    /** Runs the test of one sentence of a promise. */
    void promise(int number, String sentence, Runnable body) {
        promise = "promise " + number + ", \"" + sentence + "\"";
        int before = passed + failed;
        try {
            body.run();
        } catch (RuntimeException thrown) {
            equal("a call that should answer", "an answer", thrown);
        }
        if (passed + failed == before) {
            equal("the number of checks", "more than 0", 0);
        }
        promise = "";
    }

    void equal(String what, Object want, Object got) {
        if (Objects.equals(plain(want), plain(got))) {
            passed++;
        } else {
            failed++;
            System.out.println(test + ": " + promise + ": " + what + " answered " + got + ", due is " + want);
        }
    }

    /**
     * Checks that the call on a new shop throws just this, by a throw of its own, and that the shop is afterwards
     * like one without the call. The limit of 512 calls for each shop leaves some 200 for making it.
     */
    void refused(String what, Class<? extends RuntimeException> want, Supplier<AnagramButcher> maker, Call call) {
        AnagramButcher shop = maker.get();
        equal(what, "throws." + want.getName(), answerOf(shop, call));
        equal(what + ", the shop afterwards", stateOf(maker.get()), stateOf(shop));
    }

    /** Checks that whatever is no word is refused; the numbers have a letter 0, 27 or 31 in each place. */
    void notAWord(String what, Supplier<AnagramButcher> maker, WordCall call) {
        for (long number : notWords()) {
            refused(what + " of " + number, IllegalArgumentException.class, maker, shop -> call.on(shop, number));
        }
    }

    /** Checks that no word next to those numbers is refused for being none. */
    void aWord(String what, Supplier<AnagramButcher> maker, WordCall call) {
        for (String word : EDGE_WORDS) {
            Object answer = answerOf(maker.get(), shop -> call.on(shop, word(word)));
            equal(what + " of " + word + " is refused for no word", false,
                    answer.equals("throws." + IllegalArgumentException.class.getName()));
        }
    }

    void outOfRange(String what, int least, int greatest, Supplier<AnagramButcher> maker, NumberCall call) {
        int[] values = {least - 1, greatest + 1, Integer.MIN_VALUE, Integer.MAX_VALUE, least + 32, least + 256,
            least + 65536, least + Integer.MIN_VALUE, greatest - 65536 * 4};
        for (int value : values) {
            if (value < least || value > greatest) {
                refused(what + " of " + value, IllegalArgumentException.class, maker, shop -> call.on(shop, value));
            }
        }
    }

    /** Checks that an index from 0 on is refused where there are so many. */
    void noIndex(String what, int count, Supplier<AnagramButcher> maker, NumberCall call) {
        for (int index : new int[] {-1, count, count + 1, count + 64, 256, 65536, Integer.MIN_VALUE,
            Integer.MAX_VALUE}) {
            refused(what + " at " + index, IndexOutOfBoundsException.class, maker, shop -> call.on(shop, index));
        }
    }

    /** Answers what the call answers, or what it throws and, where it has no throw of its own, who threw it. */
    static Object answerOf(AnagramButcher shop, Call call) {
        try {
            return call.on(shop);
        } catch (RuntimeException thrown) {
            String thrower = thrown.getStackTrace()[0].getClassName();
            boolean own = thrower.startsWith("AnagramButcher");
            return "throws." + thrown.getClass().getName() + (own ? "" : " from " + thrower);
        }
    }

    /** Answers all that the calls without a change tell of a shop, but for what follows from it. */
    static String stateOf(AnagramButcher shop) {
        StringBuilder state = new StringBuilder();
        int words = shop.wordCount();
        for (int i = 0; i < words; i++) {
            state.append(shop.wordAt(i)).append(' ');
        }
        for (int letter = 1; letter <= 26; letter++) {
            state.append('\n').append(letter).append(": ").append(shop.stockOf(letter));
            state.append(' ').append(shop.basePriceOf(letter)).append(' ').append(shop.cameIn(letter));
            state.append(' ').append(shop.soldPieces(letter));
        }
        int receipts = shop.receiptCount();
        for (int i = 0; i < receipts; i++) {
            state.append('\n').append(shop.receiptWord(i)).append(' ').append(shop.receiptPrice(i));
            state.append(' ').append(shop.isReturned(i));
        }
        return state.append('\n').append(shop.totalStock()).append(' ').append(shop.takings()).toString();
    }

    void close() {
        System.out.println(test + ": " + passed + " passed, " + failed + " failed");
        if (failed > 0 || passed == 0) {
            System.exit(1);
        }
    }

    private static List<Long> notWords() {
        List<Long> numbers = new ArrayList<>();
        for (long number : NOT_WORDS) {
            numbers.add(number);
        }
        long twelve = word("abcdefghijkl");
        for (int behind = 0; behind < 12; behind++) {
            long gap = twelve & ~(31L << 5 * behind);
            numbers.add(gap | 27L << 5 * behind);
            numbers.add(gap | 31L << 5 * behind);
            if (behind < 11) {
                numbers.add(gap);
            }
        }
        return numbers;
    }

    private static Object plain(Object value) {
        return value instanceof Integer number ? (Object) number.longValue() : value;
    }
}
