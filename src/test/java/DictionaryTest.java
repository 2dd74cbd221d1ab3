import java.util.NoSuchElementException;
import java.util.TreeSet;

/** Promises 1 to 11, sentence by sentence. */
final class DictionaryTest {
    private static final Checks CHECKS = new Checks("DictionaryTest");
    private static final int MOST = 99999;
    private static final long TWELVE = Checks.word("abcdefghijkl");

    /** A word that is just before TWELVE and differs from it in the higher 32 bits alone. */
    private static final String SAME_LOW_BITS = "aacdefghijkl";

    public static void main(String[] args) {
        CHECKS.promise(1, "a shop with an empty dictionary", DictionaryTest::newDictionary);
        CHECKS.promise(1, "an empty stock", DictionaryTest::newStock);
        CHECKS.promise(1, "no receipts", DictionaryTest::newBooks);
        CHECKS.promise(1, "Creates a shop", DictionaryTest::newObjectsShareNothing);

        CHECKS.promise(2, "Returns the number of words of the dictionary afterwards", DictionaryTest::addWord);
        CHECKS.promise(2, "IllegalArgumentException if it is not a word", DictionaryTest::addWordNotAWord);
        CHECKS.promise(2, "IllegalStateException if it is in the dictionary", DictionaryTest::addWordAgain);
        CHECKS.promise(2, "if there are 60 words", DictionaryTest::addWordToAFullDictionary);
        CHECKS.promise(2, "the exception that is listed first", DictionaryTest::addWordWrongInTwoWays);

        CHECKS.promise(3, "Returns the number of words of the dictionary afterwards", DictionaryTest::removeWord);
        CHECKS.promise(3, "IllegalArgumentException if it is not a word", DictionaryTest::removeWordNotAWord);
        CHECKS.promise(3, "NoSuchElementException if it is not in the dictionary",
                DictionaryTest::removeWordThatIsNotThere);

        CHECKS.promise(4, "Returns the number of words of the dictionary", DictionaryTest::wordCount);

        CHECKS.promise(5, "index in alphabetical order, from 0", DictionaryTest::alphabeticalOrder);
        CHECKS.promise(5, "IndexOutOfBoundsException if there is no such word", DictionaryTest::wordAtNoIndex);

        CHECKS.promise(6, "Returns true if it is in the dictionary", DictionaryTest::hasWord);
        CHECKS.promise(6, "IllegalArgumentException if it is not a word", DictionaryTest::hasWordNotAWord);

        CHECKS.promise(7, "Returns the number of anagrams of it in the dictionary", DictionaryTest::anagramCount);
        CHECKS.promise(7, "a word is an anagram of itself", DictionaryTest::anagramOfItself);
        CHECKS.promise(7, "the number of anagrams of it in the dictionary, at most 60", DictionaryTest::sixtyAnagrams);
        CHECKS.promise(7, "IllegalArgumentException if it is not a word", DictionaryTest::anagramCountNotAWord);

        CHECKS.promise(8, "index among its anagrams, in alphabetical order, from 0", DictionaryTest::anagramAt);
        CHECKS.promise(8, "IllegalArgumentException if it is not a word", DictionaryTest::anagramAtNotAWord);
        CHECKS.promise(8, "IndexOutOfBoundsException if there is no such anagram", DictionaryTest::anagramAtNoIndex);

        CHECKS.promise(9, "the greatest number of words that are all anagrams of one another",
                DictionaryTest::largestAnagramGroup);
        CHECKS.promise(9, "0 if the dictionary is empty", DictionaryTest::noAnagramGroup);
        CHECKS.promise(9, "the greatest number of words, at most 60", DictionaryTest::groupOfSixty);

        CHECKS.promise(10, "Returns the number of words that fit into it", DictionaryTest::fittingCount);
        CHECKS.promise(10, "each letter occurs in it at most as often", DictionaryTest::fittingAtMostAsOften);
        CHECKS.promise(10, "the number of words that fit, none or all", DictionaryTest::fittingNoneAndAll);
        CHECKS.promise(10, "IllegalArgumentException if it is not a word", DictionaryTest::fittingCountNotAWord);

        CHECKS.promise(11, "index among the words that fit, in alphabetical order, from 0",
                DictionaryTest::fittingWord);
        CHECKS.promise(11, "IllegalArgumentException if carcass is not a word", DictionaryTest::fittingWordNotAWord);
        CHECKS.promise(11, "IndexOutOfBoundsException if there is no such word", DictionaryTest::fittingWordNoIndex);
        CHECKS.close();
    }

    // ---- Promise 1

    private static void newDictionary() {
        AnagramButcher shop = new AnagramButcher();
        CHECKS.equal("wordCount", 0, shop.wordCount());
        CHECKS.equal("hasWord of a", false, shop.hasWord(1));
        CHECKS.equal("anagramCount of a", 0, shop.anagramCount(1));
        CHECKS.equal("largestAnagramGroup", 0, shop.largestAnagramGroup());
        CHECKS.equal("fittingCount of twelve letters", 0, shop.fittingCount(TWELVE));
        CHECKS.equal("planLength of twelve letters", 0, shop.planLength(TWELVE, 3));
        CHECKS.refused("wordAt 0", IndexOutOfBoundsException.class, AnagramButcher::new, s -> s.wordAt(0));
    }

    private static void newStock() {
        AnagramButcher shop = new AnagramButcher();
        CHECKS.equal("totalStock", 0, shop.totalStock());
        for (int letter = 1; letter <= 26; letter++) {
            CHECKS.equal("stockOf " + letter, 0, shop.stockOf(letter));
            CHECKS.equal("missingLetter of " + letter, letter, shop.missingLetter(letter));
            CHECKS.equal("cameIn " + letter, 0, shop.cameIn(letter));
        }
    }

    private static void newBooks() {
        AnagramButcher shop = new AnagramButcher();
        CHECKS.equal("receiptCount", 0, shop.receiptCount());
        CHECKS.equal("takings", 0, shop.takings());
        for (int letter = 1; letter <= 26; letter++) {
            CHECKS.equal("soldPieces " + letter, 0, shop.soldPieces(letter));
        }
        CHECKS.refused("receiptWord 0", IndexOutOfBoundsException.class, AnagramButcher::new, s -> s.receiptWord(0));
    }

    private static void newObjectsShareNothing() {
        AnagramButcher before = new AnagramButcher();
        AnagramButcher shop = Checks.shop("a", "b");
        shop.cut(Checks.word("aab"), 9);
        shop.sell(1, MOST);
        shop.setBasePrice(1, 7);
        for (AnagramButcher other : new AnagramButcher[] {before, new AnagramButcher()}) {
            CHECKS.equal("wordCount of another shop", 0, other.wordCount());
            CHECKS.equal("totalStock of another shop", 0, other.totalStock());
            CHECKS.equal("basePriceOf a in another shop", 40, other.basePriceOf(1));
            CHECKS.equal("receiptCount of another shop", 0, other.receiptCount());
            CHECKS.equal("takings of another shop", 0, other.takings());
            CHECKS.equal("cameIn of a in another shop", 0, other.cameIn(1));
            CHECKS.equal("soldPieces of a in another shop", 0, other.soldPieces(1));
        }
    }

    // ---- Promise 2

    private static void addWord() {
        AnagramButcher shop = new AnagramButcher();
        for (int i = 0; i < Checks.EDGE_WORDS.length; i++) {
            long word = Checks.word(Checks.EDGE_WORDS[i]);
            CHECKS.equal("addWord of " + Checks.EDGE_WORDS[i], i + 1, shop.addWord(word));
            CHECKS.equal("hasWord of " + Checks.EDGE_WORDS[i], true, shop.hasWord(word));
        }
    }

    private static void addWordNotAWord() {
        CHECKS.notAWord("addWord", () -> Checks.shop("cat"), AnagramButcher::addWord);
        CHECKS.aWord("addWord", () -> Checks.shop("cat"), AnagramButcher::addWord);
    }

    private static void addWordAgain() {
        String[] words = {"aaaaaaaaaaaa", "act", "cat", "z", "zzzzzzzzzzzz"};
        for (String word : words) {
            CHECKS.refused("addWord of " + word + " again", IllegalStateException.class, () -> Checks.shop(words),
                    shop -> shop.addWord(Checks.word(word)));
        }
        AnagramButcher shop = Checks.shop("cat", "abcdefghijkl");
        String[] others = {"ca", "cats", "act", "abcdefghijk", SAME_LOW_BITS, "bbcdefghijkl", "abcdefghijkm",
            "fghijkl"};
        for (int i = 0; i < others.length; i++) {
            CHECKS.equal("addWord of " + others[i] + " beside cat", 3 + i, shop.addWord(Checks.word(others[i])));
        }
        shop.removeWord(Checks.word("cat"));
        CHECKS.equal("addWord of one that was removed", 2 + others.length, shop.addWord(Checks.word("cat")));
    }

    private static void addWordToAFullDictionary() {
        AnagramButcher shop = new AnagramButcher();
        for (int i = 0; i < 60; i++) {
            CHECKS.equal("addWord of word " + (i + 1), i + 1, shop.addWord(Checks.pair(i)));
        }
        for (String word : new String[] {"a", "bb", "zzzzzzzzzzzz"}) {
            CHECKS.refused("addWord of a word 61, " + word, IllegalStateException.class, Checks::fullShop,
                    full -> full.addWord(Checks.word(word)));
        }
        CHECKS.equal("removeWord", 59, shop.removeWord(Checks.pair(30)));
        CHECKS.equal("addWord in its place", 60, shop.addWord(26));
        CHECKS.equal("the last of them", 26, shop.wordAt(59));
        CHECKS.equal("addWord in a full dictionary once more", "throws.java.lang.IllegalStateException",
                Checks.answerOf(shop, s -> s.addWord(1)));
    }

    private static void addWordWrongInTwoWays() {
        CHECKS.notAWord("addWord to a full dictionary", Checks::fullShop, AnagramButcher::addWord);
        CHECKS.refused("addWord of one that is there to a full dictionary", IllegalStateException.class,
                Checks::fullShop, shop -> shop.addWord(Checks.pair(0)));
    }

    // ---- Promise 3

    private static void removeWord() {
        AnagramButcher shop = Checks.fullShop();
        for (int i = 0; i < 60; i++) {
            // Out of order, so that the first, the last and those between are removed.
            long word = Checks.pair((59 + i * 7) % 60);
            CHECKS.equal("removeWord of " + word, 59 - i, shop.removeWord(word));
            CHECKS.equal("hasWord of the removed", false, shop.hasWord(word));
        }
        CHECKS.equal("wordCount", 0, shop.wordCount());
        AnagramButcher three = Checks.shop("act", "cat", "dog");
        three.removeWord(Checks.word("cat"));
        CHECKS.equal("wordAt 0 beside the removed", Checks.word("act"), three.wordAt(0));
        CHECKS.equal("wordAt 1 beside the removed", Checks.word("dog"), three.wordAt(1));
    }

    private static void removeWordNotAWord() {
        CHECKS.notAWord("removeWord", () -> Checks.shop("cat", "a"), AnagramButcher::removeWord);
        CHECKS.notAWord("removeWord from an empty dictionary", AnagramButcher::new, AnagramButcher::removeWord);
        CHECKS.aWord("removeWord", () -> Checks.shop("cat"), AnagramButcher::removeWord);
    }

    private static void removeWordThatIsNotThere() {
        CHECKS.refused("removeWord from an empty dictionary", NoSuchElementException.class, AnagramButcher::new,
                shop -> shop.removeWord(1));
        for (String word : new String[] {"a", "ca", "cats", "act", "cau", "zzzzzzzzzzzz", "fghijkl", SAME_LOW_BITS,
            "bbcdefghijkl"}) {
            CHECKS.refused("removeWord of " + word, NoSuchElementException.class,
                    () -> Checks.shop("cat", "abcdefghijkl"), shop -> shop.removeWord(Checks.word(word)));
        }
        CHECKS.refused("removeWord of one that was removed", NoSuchElementException.class, () -> {
            AnagramButcher shop = Checks.shop("cat", "dog");
            shop.removeWord(Checks.word("cat"));
            return shop;
        }, shop -> shop.removeWord(Checks.word("cat")));
        CHECKS.refused("removeWord from a full dictionary", NoSuchElementException.class, Checks::fullShop,
                shop -> shop.removeWord(1));
    }

    // ---- Promises 4 and 5

    private static void wordCount() {
        AnagramButcher shop = new AnagramButcher();
        for (int i = 0; i < 60; i++) {
            CHECKS.equal("wordCount before word " + (i + 1), i, shop.wordCount());
            shop.addWord(Checks.pair(i));
        }
        CHECKS.equal("wordCount of a full dictionary", 60, shop.wordCount());
        Checks.answerOf(shop, s -> s.addWord(1));
        CHECKS.equal("wordCount after a refused addWord", 60, shop.wordCount());
        for (int i = 0; i < 60; i++) {
            shop.removeWord(Checks.pair(i));
            CHECKS.equal("wordCount after a removal", 59 - i, shop.wordCount());
        }
        Checks.answerOf(shop, s -> s.removeWord(1));
        CHECKS.equal("wordCount after a refused removeWord", 0, shop.wordCount());
    }

    private static void alphabeticalOrder() {
        String[] inOrder = {"a", "aa", "aaaaaaaaaaaa", "aaaaaaaaaaab", "ab", "az", "b", "ba", "bzzzzzzzzzzz", "cat",
            "cats", "cau", "y", "z", "za", "zzzzzzzzzzz", "zzzzzzzzzzzz"};
        AnagramButcher shop = new AnagramButcher();
        for (int i = 0; i < inOrder.length; i++) {
            shop.addWord(Checks.word(inOrder[i * 5 % inOrder.length]));
        }
        for (int i = 0; i < inOrder.length; i++) {
            CHECKS.equal("wordAt " + i, Checks.word(inOrder[i]), shop.wordAt(i));
        }
        AnagramButcher full = new AnagramButcher();
        for (int i = 59; i >= 0; i--) {
            full.addWord(Checks.pair(i));
        }
        for (int i = 0; i < 60; i++) {
            CHECKS.equal("wordAt " + i + " of 60", Checks.pair(i), full.wordAt(i));
        }
    }

    private static void wordAtNoIndex() {
        CHECKS.noIndex("wordAt of no words", 0, AnagramButcher::new, AnagramButcher::wordAt);
        CHECKS.noIndex("wordAt of one word", 1, () -> Checks.shop("cat"), AnagramButcher::wordAt);
        CHECKS.noIndex("wordAt of 60 words", 60, Checks::fullShop, AnagramButcher::wordAt);
        CHECKS.equal("wordAt 0 of one word", Checks.word("cat"), Checks.shop("cat").wordAt(0));
        AnagramButcher shop = Checks.fullShop();
        CHECKS.equal("wordAt 59 of 60", Checks.pair(59), shop.wordAt(59));
        shop.removeWord(Checks.pair(59));
        CHECKS.equal("wordAt 58 of 59", Checks.pair(58), shop.wordAt(58));
        CHECKS.equal("wordAt 59 of 59", "throws.java.lang.IndexOutOfBoundsException",
                Checks.answerOf(shop, s -> s.wordAt(59)));
    }

    // ---- Promise 6

    private static void hasWord() {
        AnagramButcher shop = Checks.shop("cat", "dog", "z", "abcdefghijkl");
        for (String word : new String[] {"cat", "dog", "z", "abcdefghijkl"}) {
            CHECKS.equal("hasWord of " + word, true, shop.hasWord(Checks.word(word)));
        }
        for (String word : new String[] {"act", "a", "ca", "cats", "zz", "zzzzzzzzzzzz", "fghijkl", SAME_LOW_BITS,
            "bbcdefghijkl"}) {
            CHECKS.equal("hasWord of " + word, false, shop.hasWord(Checks.word(word)));
        }
        CHECKS.equal("hasWord in an empty dictionary", false, new AnagramButcher().hasWord(1));
        AnagramButcher full = Checks.fullShop();
        for (int i = 0; i < 60; i++) {
            CHECKS.equal("hasWord of word " + i + " of 60", true, full.hasWord(Checks.pair(i)));
        }
        CHECKS.equal("hasWord of a word 61", false, full.hasWord(Checks.pair(60)));
        Checks.answerOf(full, s -> s.addWord(Checks.pair(60)));
        CHECKS.equal("hasWord of a word that was refused", false, full.hasWord(Checks.pair(60)));
        full.removeWord(Checks.pair(59));
        CHECKS.equal("hasWord of a word that was removed", false, full.hasWord(Checks.pair(59)));
    }

    private static void hasWordNotAWord() {
        CHECKS.notAWord("hasWord", () -> Checks.shop("cat", "a"), AnagramButcher::hasWord);
        CHECKS.notAWord("hasWord in an empty dictionary", AnagramButcher::new, AnagramButcher::hasWord);
        CHECKS.aWord("hasWord", () -> Checks.shop("cat"), AnagramButcher::hasWord);
    }

    // ---- Promises 7 and 8

    private static AnagramButcher anagramShop() {
        return Checks.shop("tea", "eat", "ate", "at", "teat", "tee", "b", "noon", "tat", "att");
    }

    /** Answers 60 anagrams of abcde, in alphabetical order. */
    private static TreeSet<Long> sixtyWords() {
        TreeSet<Long> words = new TreeSet<>();
        for (int n = 0; words.size() < 60; n++) {
            int[] digits = {n / 625 % 5, n / 125 % 5, n / 25 % 5, n / 5 % 5, n % 5};
            long word = 0;
            int seen = 0;
            for (int digit : digits) {
                word = word * 32 + digit + 1;
                seen |= 1 << digit;
            }
            if (seen == 31) {
                words.add(word);
            }
        }
        return words;
    }

    private static AnagramButcher shopOfAnagrams() {
        AnagramButcher shop = new AnagramButcher();
        for (long word : sixtyWords().descendingSet()) {
            shop.addWord(word);
        }
        return shop;
    }

    private static void anagramCount() {
        AnagramButcher shop = anagramShop();
        String[] words = {"eta", "b", "onno", "onnn", "aat", "tta", "ta", "t", "eat", "eatt", "zzzzzzzzzzzz"};
        int[] due = {3, 1, 1, 0, 0, 2, 1, 0, 3, 1, 0};
        for (int i = 0; i < words.length; i++) {
            CHECKS.equal("anagramCount of " + words[i], due[i], shop.anagramCount(Checks.word(words[i])));
        }
        shop.removeWord(Checks.word("eat"));
        CHECKS.equal("anagramCount after a removal", 2, shop.anagramCount(Checks.word("eta")));
        CHECKS.equal("anagramCount in an empty dictionary", 0, new AnagramButcher().anagramCount(1));
    }

    private static void anagramOfItself() {
        AnagramButcher shop = Checks.shop("cat", "lkjihgfedcba");
        CHECKS.equal("anagramCount of a word that is there", 1, shop.anagramCount(Checks.word("cat")));
        CHECKS.equal("anagramAt 0 of it", Checks.word("cat"), shop.anagramAt(Checks.word("cat"), 0));
        CHECKS.equal("anagramCount of a word that is not there", 0, shop.anagramCount(Checks.word("dog")));
        CHECKS.equal("anagramCount of twelve letters", 1, shop.anagramCount(TWELVE));
        shop.addWord(TWELVE);
        CHECKS.equal("anagramCount with it", 2, shop.anagramCount(TWELVE));
    }

    private static void sixtyAnagrams() {
        AnagramButcher shop = shopOfAnagrams();
        CHECKS.equal("anagramCount of edcba", 60, shop.anagramCount(Checks.word("edcba")));
        shop.removeWord(shop.wordAt(59));
        CHECKS.equal("anagramCount of one fewer", 59, shop.anagramCount(Checks.word("edcba")));
    }

    private static void anagramCountNotAWord() {
        CHECKS.notAWord("anagramCount", () -> Checks.shop("cat", "a"), AnagramButcher::anagramCount);
        CHECKS.aWord("anagramCount", () -> Checks.shop("cat"), AnagramButcher::anagramCount);
    }

    private static void anagramAt() {
        AnagramButcher shop = anagramShop();
        String[] due = {"ate", "eat", "tea"};
        for (int i = 0; i < due.length; i++) {
            CHECKS.equal("anagramAt " + i + " of eta", Checks.word(due[i]), shop.anagramAt(Checks.word("eta"), i));
            CHECKS.equal("anagramAt " + i + " of tea", Checks.word(due[i]), shop.anagramAt(Checks.word("tea"), i));
        }
        AnagramButcher full = shopOfAnagrams();
        int index = 0;
        for (long word : sixtyWords()) {
            CHECKS.equal("anagramAt " + index + " of 60", word, full.anagramAt(Checks.word("edcba"), index));
            index++;
        }
    }

    private static void anagramAtNotAWord() {
        CHECKS.notAWord("anagramAt 0", () -> Checks.shop("cat", "a"), (shop, number) -> shop.anagramAt(number, 0));
        CHECKS.notAWord("anagramAt a wrong index too", () -> Checks.shop("cat", "a"),
                (shop, number) -> shop.anagramAt(number, -1));
        CHECKS.aWord("anagramAt 0", () -> Checks.shop("cat"), (shop, number) -> shop.anagramAt(number, 0));
    }

    private static void anagramAtNoIndex() {
        CHECKS.noIndex("anagramAt of three", 3, DictionaryTest::anagramShop,
                (shop, index) -> shop.anagramAt(Checks.word("eta"), index));
        CHECKS.noIndex("anagramAt of one", 1, DictionaryTest::anagramShop,
                (shop, index) -> shop.anagramAt(Checks.word("b"), index));
        CHECKS.noIndex("anagramAt of none", 0, DictionaryTest::anagramShop,
                (shop, index) -> shop.anagramAt(26, index));
        CHECKS.noIndex("anagramAt in an empty dictionary", 0, AnagramButcher::new,
                (shop, index) -> shop.anagramAt(1, index));
        CHECKS.noIndex("anagramAt of 60", 60, DictionaryTest::shopOfAnagrams,
                (shop, index) -> shop.anagramAt(Checks.word("abcde"), index));
        CHECKS.equal("anagramAt the last index", Checks.word("tea"), anagramShop().anagramAt(Checks.word("eta"), 2));
        CHECKS.equal("anagramAt the only index", 2, anagramShop().anagramAt(2, 0));
    }

    // ---- Promise 9

    private static void largestAnagramGroup() {
        AnagramButcher shop = new AnagramButcher();
        String[] words = {"cat", "dog", "god", "act", "gods", "tac", "do"};
        int[] due = {1, 1, 2, 2, 2, 3, 3};
        for (int i = 0; i < words.length; i++) {
            shop.addWord(Checks.word(words[i]));
            CHECKS.equal("largestAnagramGroup with " + words[i], due[i], shop.largestAnagramGroup());
        }
        shop.removeWord(Checks.word("act"));
        CHECKS.equal("largestAnagramGroup after a removal", 2, shop.largestAnagramGroup());
        CHECKS.equal("largestAnagramGroup of aab and abb", 1, Checks.shop("aab", "abb", "ab").largestAnagramGroup());
        CHECKS.equal("largestAnagramGroup of the last two", 2, Checks.shop("a", "zy", "yz").largestAnagramGroup());
    }

    private static void noAnagramGroup() {
        AnagramButcher shop = new AnagramButcher();
        CHECKS.equal("largestAnagramGroup of a new shop", 0, shop.largestAnagramGroup());
        shop.addWord(1);
        CHECKS.equal("largestAnagramGroup of one word", 1, shop.largestAnagramGroup());
        shop.removeWord(1);
        CHECKS.equal("largestAnagramGroup of an emptied dictionary", 0, shop.largestAnagramGroup());
    }

    private static void groupOfSixty() {
        AnagramButcher shop = shopOfAnagrams();
        CHECKS.equal("largestAnagramGroup of 60 anagrams", 60, shop.largestAnagramGroup());
        shop.removeWord(shop.wordAt(0));
        shop.addWord(1);
        CHECKS.equal("largestAnagramGroup of 59 anagrams and another word", 59, shop.largestAnagramGroup());
    }

    // ---- Promises 10 and 11

    private static AnagramButcher fittingShop() {
        return Checks.shop("ten", "net", "tent", "not", "t", "teen", "tenth", "zebra");
    }

    private static void fittingCount() {
        AnagramButcher shop = fittingShop();
        String[] carcasses = {"nettle", "nte", "a", "t", "arbez", "htnet", "tttttttttttt"};
        int[] due = {5, 3, 0, 1, 1, 5, 1};
        for (int i = 0; i < carcasses.length; i++) {
            CHECKS.equal("fittingCount of " + carcasses[i], due[i], shop.fittingCount(Checks.word(carcasses[i])));
        }
    }

    private static void fittingAtMostAsOften() {
        AnagramButcher shop = Checks.shop("abb");
        CHECKS.equal("fittingCount of a word itself", 1, shop.fittingCount(Checks.word("abb")));
        CHECKS.equal("fittingCount of just the letters", 1, shop.fittingCount(Checks.word("bab")));
        CHECKS.equal("fittingCount of one b too few", 0, shop.fittingCount(Checks.word("baa")));
        CHECKS.equal("fittingCount of no b and a longer carcass", 0, shop.fittingCount(Checks.word("acacacacacac")));
        CHECKS.equal("fittingCount of one letter more", 1, shop.fittingCount(Checks.word("babb")));
        AnagramButcher twelve = Checks.shop("aaaaaaaaaaaa");
        CHECKS.equal("fittingCount of twelve a", 1, twelve.fittingCount(Checks.word("aaaaaaaaaaaa")));
        CHECKS.equal("fittingCount of eleven a", 0, twelve.fittingCount(Checks.word("aaaaaaaaaaa")));
        CHECKS.equal("fittingCount of eleven a and a z", 0, twelve.fittingCount(Checks.word("aaaaaaaaaaaz")));
    }

    private static void fittingNoneAndAll() {
        AnagramButcher shop = shopOfAnagrams();
        CHECKS.equal("fittingCount where all fit", 60, shop.fittingCount(Checks.word("aabbccddeezz")));
        CHECKS.equal("fittingCount where none fits", 0, shop.fittingCount(Checks.word("aabbccddzzzz")));
        CHECKS.equal("fittingCount in an empty dictionary", 0, new AnagramButcher().fittingCount(1));
    }

    private static void fittingCountNotAWord() {
        CHECKS.notAWord("fittingCount", () -> Checks.shop("cat", "a"), AnagramButcher::fittingCount);
        CHECKS.aWord("fittingCount", () -> Checks.shop("cat"), AnagramButcher::fittingCount);
    }

    private static void fittingWord() {
        AnagramButcher shop = fittingShop();
        String[] due = {"net", "t", "teen", "ten", "tent"};
        for (int i = 0; i < due.length; i++) {
            CHECKS.equal("fittingWord " + i, Checks.word(due[i]), shop.fittingWord(Checks.word("nettle"), i));
        }
        AnagramButcher full = shopOfAnagrams();
        int index = 0;
        for (long word : sixtyWords()) {
            CHECKS.equal("fittingWord " + index + " of 60", word, full.fittingWord(TWELVE, index));
            index++;
        }
    }

    private static void fittingWordNotAWord() {
        CHECKS.notAWord("fittingWord 0", () -> Checks.shop("cat", "a"), (shop, number) -> shop.fittingWord(number, 0));
        CHECKS.notAWord("fittingWord of a wrong index too", () -> Checks.shop("cat", "a"),
                (shop, number) -> shop.fittingWord(number, 99));
        CHECKS.aWord("fittingWord 0", () -> Checks.shop("cat"), (shop, number) -> shop.fittingWord(number, 0));
    }

    private static void fittingWordNoIndex() {
        CHECKS.noIndex("fittingWord of five", 5, DictionaryTest::fittingShop,
                (shop, index) -> shop.fittingWord(Checks.word("nettle"), index));
        CHECKS.noIndex("fittingWord of one", 1, DictionaryTest::fittingShop,
                (shop, index) -> shop.fittingWord(Checks.word("t"), index));
        CHECKS.noIndex("fittingWord where none fits", 0, DictionaryTest::fittingShop,
                (shop, index) -> shop.fittingWord(1, index));
        CHECKS.noIndex("fittingWord in an empty dictionary", 0, AnagramButcher::new,
                (shop, index) -> shop.fittingWord(TWELVE, index));
        CHECKS.noIndex("fittingWord of 60", 60, DictionaryTest::shopOfAnagrams,
                (shop, index) -> shop.fittingWord(TWELVE, index));
        CHECKS.equal("fittingWord of the last index", Checks.word("tent"),
                fittingShop().fittingWord(Checks.word("nettle"), 4));
    }
}
