import java.util.NoSuchElementException;

/** Promises 1 to 11. */
final class DictionaryTest {
    private static final Checks CHECKS = new Checks("DictionaryTest");

    public static void main(String[] args) {
        newObject();
        addWord();
        addWordToAFullDictionary();
        removeWord();
        alphabeticalOrder();
        hasWord();
        anagrams();
        largestAnagramGroup();
        fitting();
        CHECKS.close();
    }

    private static void newObject() {
        AnagramButcher shop = new AnagramButcher();
        CHECKS.equal("wordCount of a new shop", 0, shop.wordCount());
        CHECKS.equal("totalStock of a new shop", 0, shop.totalStock());
        CHECKS.equal("receiptCount of a new shop", 0, shop.receiptCount());
        CHECKS.equal("takings of a new shop", 0, shop.takings());
        CHECKS.equal("largestAnagramGroup of a new shop", 0, shop.largestAnagramGroup());
        for (int letter = 1; letter <= 26; letter++) {
            CHECKS.equal("stockOf " + letter + " of a new shop", 0, shop.stockOf(letter));
            CHECKS.equal("cameIn " + letter + " of a new shop", 0, shop.cameIn(letter));
            CHECKS.equal("soldPieces " + letter + " of a new shop", 0, shop.soldPieces(letter));
        }
        shop.addWord(1);
        shop.cut(1, 1);
        CHECKS.equal("wordCount of a second shop", 0, new AnagramButcher().wordCount());
        CHECKS.equal("totalStock of a second shop", 0, new AnagramButcher().totalStock());
    }

    private static void addWord() {
        AnagramButcher shop = new AnagramButcher();
        CHECKS.equal("addWord of the first word", 1, shop.addWord(Checks.word("cat")));
        CHECKS.equal("addWord of the second word", 2, shop.addWord(Checks.word("act")));
        CHECKS.equal("addWord of the shortest and first word", 3, shop.addWord(1));
        CHECKS.equal("addWord of the shortest and last word", 4, shop.addWord(26));
        CHECKS.equal("addWord of twelve letters", 5, shop.addWord(Checks.word("zzzzzzzzzzzz")));
        CHECKS.equal("addWord of twelve other letters", 6, shop.addWord(Checks.word("aaaaaaaaaaaa")));
        CHECKS.equal("wordCount", 6, shop.wordCount());
        for (String word : new String[] {"cat", "act", "a", "z", "zzzzzzzzzzzz", "aaaaaaaaaaaa"}) {
            CHECKS.refused("addWord of " + word + " again", IllegalStateException.class, shop,
                    () -> shop.addWord(Checks.word(word)));
        }
        CHECKS.notAWord("addWord", shop, shop::addWord);
    }

    private static void addWordToAFullDictionary() {
        AnagramButcher shop = new AnagramButcher();
        for (int i = 0; i < 60; i++) {
            long word = (1 + i / 26) * 32L + 1 + i % 26;
            CHECKS.equal("addWord of word " + i, i + 1, shop.addWord(word));
        }
        CHECKS.refused("addWord of a sixty-first", IllegalStateException.class, shop, () -> shop.addWord(26));
        CHECKS.refused("addWord of one that is there", IllegalStateException.class, shop, () -> shop.addWord(33));
        CHECKS.notAWord("addWord to a full dictionary", shop, shop::addWord);
        CHECKS.equal("wordAt 59", 3L * 32 + 8, shop.wordAt(59));
        CHECKS.equal("removeWord of the last", 59, shop.removeWord(3L * 32 + 8));
        CHECKS.equal("addWord in its place", 60, shop.addWord(1));
        CHECKS.equal("wordAt 0", 1, shop.wordAt(0));
        CHECKS.equal("wordAt 59 then", 3L * 32 + 7, shop.wordAt(59));
        CHECKS.equal("removeWord of the first", 59, shop.removeWord(1));
        CHECKS.equal("wordAt 0 then", 33, shop.wordAt(0));
        CHECKS.noIndex("wordAt", 59, shop, shop::wordAt);
    }

    private static void removeWord() {
        AnagramButcher shop = Checks.shop("cat", "act", "dog");
        CHECKS.equal("removeWord of the middle word", 2, shop.removeWord(Checks.word("cat")));
        CHECKS.equal("hasWord of the removed", false, shop.hasWord(Checks.word("cat")));
        CHECKS.equal("wordAt 0", Checks.word("act"), shop.wordAt(0));
        CHECKS.equal("wordAt 1", Checks.word("dog"), shop.wordAt(1));
        for (String word : new String[] {"cat", "a", "zoo", "do", "dogs", "cta"}) {
            CHECKS.refused("removeWord of " + word, NoSuchElementException.class, shop,
                    () -> shop.removeWord(Checks.word(word)));
        }
        CHECKS.notAWord("removeWord", shop, shop::removeWord);
        CHECKS.equal("removeWord of the last", 1, shop.removeWord(Checks.word("dog")));
        CHECKS.equal("removeWord of the only one", 0, shop.removeWord(Checks.word("act")));
        CHECKS.equal("wordCount", 0, shop.wordCount());
        CHECKS.refused("removeWord of nothing", NoSuchElementException.class, shop, () -> shop.removeWord(1));
        CHECKS.equal("addWord after all were removed", 1, shop.addWord(Checks.word("cat")));
    }

    private static void alphabeticalOrder() {
        String[] inOrder = {"a", "aa", "aaaaaaaaaaaa", "ab", "az", "b", "ba", "bzzzzzzzzzzz", "cat", "cats", "cau",
            "z", "za", "zzzzzzzzzzzz"};
        AnagramButcher shop = new AnagramButcher();
        CHECKS.noIndex("wordAt of an empty dictionary", 0, shop, shop::wordAt);
        for (int i = 0; i < inOrder.length; i++) {
            shop.addWord(Checks.word(inOrder[i * 5 % inOrder.length]));
        }
        for (int i = 0; i < inOrder.length; i++) {
            CHECKS.equal("wordAt " + i, Checks.word(inOrder[i]), shop.wordAt(i));
        }
        CHECKS.noIndex("wordAt", inOrder.length, shop, shop::wordAt);
    }

    private static void hasWord() {
        AnagramButcher shop = Checks.shop("cat", "dog", "z");
        for (String word : new String[] {"cat", "dog", "z"}) {
            CHECKS.equal("hasWord of " + word, true, shop.hasWord(Checks.word(word)));
        }
        for (String word : new String[] {"act", "a", "ca", "cats", "zz", "zzzzzzzzzzzz"}) {
            CHECKS.equal("hasWord of " + word, false, shop.hasWord(Checks.word(word)));
        }
        CHECKS.equal("hasWord in an empty dictionary", false, new AnagramButcher().hasWord(1));
        CHECKS.notAWord("hasWord", shop, shop::hasWord);
    }

    private static void anagrams() {
        AnagramButcher shop = Checks.shop("tea", "eat", "ate", "at", "teat", "tee", "b", "noon", "tat", "att");
        long word = Checks.word("eta");
        CHECKS.equal("anagramCount of one that is not there", 3, shop.anagramCount(word));
        CHECKS.equal("anagramCount of one that is there", 3, shop.anagramCount(Checks.word("tea")));
        CHECKS.equal("anagramCount of b", 1, shop.anagramCount(2));
        CHECKS.equal("anagramCount of noon", 1, shop.anagramCount(Checks.word("onno")));
        CHECKS.equal("anagramCount of onon", 0, shop.anagramCount(Checks.word("onnn")));
        CHECKS.equal("anagramCount of aat", 0, shop.anagramCount(Checks.word("aat")));
        CHECKS.equal("anagramCount of tta", 2, shop.anagramCount(Checks.word("tta")));
        CHECKS.equal("anagramCount of ta", 1, shop.anagramCount(Checks.word("ta")));
        CHECKS.equal("anagramAt 0", Checks.word("ate"), shop.anagramAt(word, 0));
        CHECKS.equal("anagramAt 1", Checks.word("eat"), shop.anagramAt(word, 1));
        CHECKS.equal("anagramAt 2", Checks.word("tea"), shop.anagramAt(word, 2));
        CHECKS.noIndex("anagramAt", 3, shop, index -> shop.anagramAt(word, index));
        CHECKS.noIndex("anagramAt without anagrams", 0, shop, index -> shop.anagramAt(26, index));
        CHECKS.notAWord("anagramCount", shop, shop::anagramCount);
        CHECKS.notAWord("anagramAt", shop, number -> shop.anagramAt(number, 0));
        CHECKS.notAWord("anagramAt at a wrong index", shop, number -> shop.anagramAt(number, -1));
    }

    private static void largestAnagramGroup() {
        AnagramButcher shop = new AnagramButcher();
        String[] words = {"cat", "dog", "god", "act", "gods", "tac", "do"};
        int[] due = {1, 1, 2, 2, 2, 3, 3};
        for (int i = 0; i < words.length; i++) {
            shop.addWord(Checks.word(words[i]));
            CHECKS.equal("largestAnagramGroup with " + words[i], due[i], shop.largestAnagramGroup());
        }
        shop.removeWord(Checks.word("act"));
        CHECKS.equal("largestAnagramGroup after a removal", 2, shop.largestAnagramGroup());
        CHECKS.equal("largestAnagramGroup of aab and abb", 1, Checks.shop("aab", "abb").largestAnagramGroup());
    }

    private static void fitting() {
        AnagramButcher shop = Checks.shop("ten", "net", "tent", "not", "t", "teen", "tenth", "zebra");
        long carcass = Checks.word("nettle");
        String[] due = {"net", "t", "teen", "ten", "tent"};
        CHECKS.equal("fittingCount", due.length, shop.fittingCount(carcass));
        for (int i = 0; i < due.length; i++) {
            CHECKS.equal("fittingWord " + i, Checks.word(due[i]), shop.fittingWord(carcass, i));
        }
        CHECKS.equal("fittingCount of nte", 3, shop.fittingCount(Checks.word("nte")));
        CHECKS.equal("fittingCount of a", 0, shop.fittingCount(1));
        CHECKS.equal("fittingCount of arbez", 1, shop.fittingCount(Checks.word("arbez")));
        CHECKS.equal("fittingCount of an empty dictionary", 0, new AnagramButcher().fittingCount(carcass));
        CHECKS.noIndex("fittingWord", due.length, shop, index -> shop.fittingWord(carcass, index));
        CHECKS.noIndex("fittingWord where none fits", 0, shop, index -> shop.fittingWord(1, index));
        CHECKS.notAWord("fittingCount", shop, shop::fittingCount);
        CHECKS.notAWord("fittingWord", shop, number -> shop.fittingWord(number, 0));
        CHECKS.notAWord("fittingWord at a wrong index", shop, number -> shop.fittingWord(number, 99));
    }
}
