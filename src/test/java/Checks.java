import java.util.Objects;

/** Counts the checks of one test, prints those that fail, and ends the test. */
final class Checks {
    /** A call whose answer is checked. */
    interface Call {
        Object answer();
    }

    /** What is not a word: no letter, a letter 0 or above 26, a sign, a thirteenth letter. */
    static final long[] NOT_WORDS = {
        0, -1, Long.MIN_VALUE, Long.MAX_VALUE, 27, 31, 32, 1024, 33 * 32, (1L << 40) + 1,
        word("cat") * 32 + 27, word("a") * 1024 + 2, 31L * 32 + 1, 1L << 60, (1L << 60) + word("abcdefghijkl"),
        word("abcdefghijkl") * 32 + 1, -word("cat"), word("cat") | Long.MIN_VALUE,
    };

    private final String test;
    private int passed;
    private int failed;

    Checks(String test) {
        this.test = test;
    }

    /** Answers the number of a word. */
    static long word(String letters) {
        long number = 0;
        for (char letter : letters.toCharArray()) {
            number = number * 32 + (letter - 'a' + 1);
        }
        return number;
    }

    static int letter(char letter) {
        return letter - 'a' + 1;
    }

    static AnagramButcher shop(String... words) {
        AnagramButcher shop = new AnagramButcher();
        for (String word : words) {
            shop.addWord(word(word));
        }
        return shop;
    }

    void equal(String what, Object want, Object got) {
        if (Objects.equals(plain(want), plain(got))) {
            passed++;
        } else {
            failed++;
            System.out.println(test + ": " + what + " answered " + got + ", due is " + want);
        }
    }

    /** Checks that the call throws just this and changes nothing that can be asked of the shop. */
    void refused(String what, Class<? extends RuntimeException> want, AnagramButcher shop, Call call) {
        String before = stateOf(shop);
        Object got;
        try {
            got = call.answer();
        } catch (RuntimeException thrown) {
            got = thrown.getClass();
        }
        equal(what, want, got);
        equal(what + ", the state after it", before, stateOf(shop));
    }

    void notAWord(String what, AnagramButcher shop, java.util.function.LongFunction<Object> call) {
        for (long number : NOT_WORDS) {
            refused(what + " of " + number, IllegalArgumentException.class, shop, () -> call.apply(number));
        }
    }

    void outOfRange(String what, int least, int greatest, AnagramButcher shop,
            java.util.function.IntFunction<Object> call) {
        for (int value : new int[] {least - 1, greatest + 1, Integer.MIN_VALUE, Integer.MAX_VALUE}) {
            refused(what + " of " + value, IllegalArgumentException.class, shop, () -> call.apply(value));
        }
    }

    void noIndex(String what, int count, AnagramButcher shop, java.util.function.IntFunction<Object> call) {
        for (int index : new int[] {-1, count, count + 1, Integer.MIN_VALUE, Integer.MAX_VALUE}) {
            refused(what + " of " + index, IndexOutOfBoundsException.class, shop, () -> call.apply(index));
        }
    }

    /** Answers all that the calls without a change tell of a shop, but for what follows from it. */
    static String stateOf(AnagramButcher shop) {
        StringBuilder state = new StringBuilder();
        for (int i = 0; i < shop.wordCount(); i++) {
            state.append(shop.wordAt(i)).append(' ');
        }
        for (int letter = 1; letter <= 26; letter++) {
            state.append('\n').append(letter).append(": ").append(shop.stockOf(letter));
            state.append(' ').append(shop.basePriceOf(letter)).append(' ').append(shop.cameIn(letter));
            state.append(' ').append(shop.soldPieces(letter));
        }
        for (int i = 0; i < shop.receiptCount(); i++) {
            state.append('\n').append(shop.receiptWord(i)).append(' ').append(shop.receiptPrice(i));
            state.append(' ').append(shop.isReturned(i));
        }
        return state.append('\n').append(shop.takings()).toString();
    }

    void close() {
        System.out.println(test + ": " + passed + " passed, " + failed + " failed");
        if (failed > 0 || passed == 0) {
            System.exit(1);
        }
    }

    private static Object plain(Object value) {
        return value instanceof Integer number ? (Object) number.longValue() : value;
    }
}
