import java.util.ArrayList;
import java.util.List;
import java.util.NoSuchElementException;

/** A butcher's shop for words: words are cut into letters, and letters are sold by weight as words. */
public final class AnagramButcher {
    public static final int NONE = -1;
    public static final int UNKNOWN_WORD = 1;
    public static final int MISSING_LETTER = 2;
    public static final int OVER_BUDGET = 3;

    private static final int MOST_COPIES = 50;
    private static final int MOST_PENCE = 999;
    private static final int MOST_BUDGET = 99999;
    private static final int MOST_SALES = 20;
    private static final int ORDER_PENCE = 2;

    private final Dictionary dictionary;
    private final Stock stock;
    private final Accounts accounts;
    private final Planner planner;
    private final Pile incoming;

    public AnagramButcher() {
        dictionary = new Dictionary();
        stock = new Stock();
        accounts = new Accounts();
        planner = new Planner();
        incoming = new Pile();
    }

    // ---- Dictionary

    public int addWord(long word) throws IllegalArgumentException, IllegalStateException {
        requireWord(word);
        if (dictionary.contains(word)) {
            throw new IllegalStateException("the word is in the dictionary");
        }
        if (dictionary.words().isFull()) {
            throw new IllegalStateException("the dictionary is full");
        }
        dictionary.insert(word);
        return dictionary.words().size();
    }

    public int removeWord(long word) throws IllegalArgumentException, NoSuchElementException {
        requireWord(word);
        if (!dictionary.contains(word)) {
            throw new NoSuchElementException("the word is not in the dictionary");
        }
        dictionary.delete(word);
        return dictionary.words().size();
    }

    public int wordCount() {
        return dictionary.words().size();
    }

    public long wordAt(int index) throws IndexOutOfBoundsException {
        return requireWordOf(dictionary.words(), index);
    }

    public boolean hasWord(long word) throws IllegalArgumentException {
        requireWord(word);
        return dictionary.contains(word);
    }

    public int anagramCount(long word) throws IllegalArgumentException {
        requireWord(word);
        return dictionary.anagrams(word).size();
    }

    public long anagramAt(long word, int index) throws IllegalArgumentException, IndexOutOfBoundsException {
        requireWord(word);
        return requireWordOf(dictionary.anagrams(word), index);
    }

    public int largestAnagramGroup() {
        int largest = 0;
        for (int i = 0; i < dictionary.words().size(); i++) {
            largest = Math.max(largest, dictionary.anagrams(dictionary.words().word(i)).size());
        }
        return largest;
    }

    public int fittingCount(long carcass) throws IllegalArgumentException {
        requireWord(carcass);
        return dictionary.fitting(carcass).size();
    }

    public long fittingWord(long carcass, int index) throws IllegalArgumentException, IndexOutOfBoundsException {
        requireWord(carcass);
        return requireWordOf(dictionary.fitting(carcass), index);
    }

    // ---- Stock and prices

    public int cut(long word, int copies) throws IllegalArgumentException, IllegalStateException {
        requireWord(word);
        requireRange(copies, 1, MOST_COPIES);
        incoming.clear();
        incoming.put(word, copies);
        requireRoom(incoming);
        stock.pieces.putAll(incoming);
        accounts.cameIn.putAll(incoming);
        return stock.pieces.total();
    }

    public int stockOf(int letter) throws IllegalArgumentException {
        requireLetter(letter);
        return stock.pieces.count(letter);
    }

    public int totalStock() {
        return stock.pieces.total();
    }

    public int setBasePrice(int letter, int pence) throws IllegalArgumentException {
        requireLetter(letter);
        requireRange(pence, 1, MOST_PENCE);
        return stock.changeBasePrice(letter, pence);
    }

    public int basePriceOf(int letter) throws IllegalArgumentException {
        requireLetter(letter);
        return stock.basePrice(letter);
    }

    public int presentPriceOf(int letter) throws IllegalArgumentException {
        requireLetter(letter);
        return stock.presentPrice(letter);
    }

    public int weightOf(long word) throws IllegalArgumentException {
        requireWord(word);
        return stock.ounces(word);
    }

    // ---- Sales

    public int costOf(long word) throws IllegalArgumentException, NoSuchElementException {
        requireWord(word);
        if (!stock.pieces.holds(word)) {
            throw new NoSuchElementException("the stock has too few pieces of a letter");
        }
        return stock.weigh(word);
    }

    public int missingLetter(long word) throws IllegalArgumentException {
        requireWord(word);
        return stock.pieces.lacking(word);
    }

    public int refusalOf(long word, int budget) throws IllegalArgumentException {
        requireWord(word);
        requireBudget(budget);
        return reasonAgainst(word, budget);
    }

    public int sell(long word, int budget) throws IllegalArgumentException, IllegalStateException {
        requireWord(word);
        requireBudget(budget);
        if (reasonAgainst(word, budget) != 0) {
            throw new IllegalStateException("the sale is refused");
        }
        requireReceipts(1);
        return handOver(word);
    }

    public int affordableWords(int budget) throws IllegalArgumentException {
        requireBudget(budget);
        int affordable = 0;
        for (int i = 0; i < dictionary.words().size(); i++) {
            if (stock.canSell(dictionary.words().word(i), budget)) {
                affordable++;
            }
        }
        return affordable;
    }

    public long bestWord(int budget) throws IllegalArgumentException {
        requireBudget(budget);
        return bestFor(budget);
    }

    public int spend(int budget) throws IllegalArgumentException {
        requireBudget(budget);
        int left = budget;
        int sold = 0;
        while (sold < MOST_SALES && accounts.hasRoomFor(1)) {
            long word = bestFor(left);
            if (word == 0) {
                break;
            }
            left -= handOver(word);
            sold++;
        }
        return sold;
    }

    // ---- Cutting to order

    public int planLength(long carcass, int most) throws IllegalArgumentException {
        makePlan(carcass, most);
        return planner.best().size();
    }

    public long planWord(long carcass, int most, int index)
            throws IllegalArgumentException, IndexOutOfBoundsException {
        makePlan(carcass, most);
        return requireWordOf(planner.best(), index);
    }

    public int leftoverCount(long carcass, int most) throws IllegalArgumentException {
        makePlan(carcass, most);
        return planner.leftovers().total();
    }

    public int cutToOrder(long carcass, int most) throws IllegalArgumentException, IllegalStateException {
        makePlan(carcass, most);
        requireRoom(planner.leftovers());
        requireReceipts(planner.best().size());
        for (int i = 0; i < planner.best().size(); i++) {
            long word = planner.best().word(i);
            accounts.writeReceipt(word, ORDER_PENCE * Words.lengthOf(word));
        }
        accounts.cameIn.put(carcass, 1);
        stock.pieces.putAll(planner.leftovers());
        return planner.leftovers().total();
    }

    // ---- Receipts and accounts

    public int receiptCount() {
        return accounts.receipts.size();
    }

    public long receiptWord(int receipt) throws IndexOutOfBoundsException {
        return requireReceipt(receipt).word;
    }

    public int receiptPrice(int receipt) throws IndexOutOfBoundsException {
        return requireReceipt(receipt).price;
    }

    public boolean isReturned(int receipt) throws IndexOutOfBoundsException {
        return requireReceipt(receipt).returned;
    }

    public int takeBack(int receipt) throws IndexOutOfBoundsException, IllegalStateException {
        Receipt shown = requireReceipt(receipt);
        if (shown.returned) {
            throw new IllegalStateException("the word was returned already");
        }
        incoming.clear();
        incoming.put(shown.word, 1);
        requireRoom(incoming);
        stock.pieces.putAll(incoming);
        accounts.giveBack(shown);
        return shown.refund();
    }

    public int takings() {
        return accounts.balance;
    }

    public int cameIn(int letter) throws IllegalArgumentException {
        requireLetter(letter);
        return accounts.cameIn.count(letter);
    }

    public int soldPieces(int letter) throws IllegalArgumentException {
        requireLetter(letter);
        return accounts.sold.count(letter);
    }

    // ---- What the calls share

    private int reasonAgainst(long word, int budget) {
        if (!dictionary.contains(word)) {
            return UNKNOWN_WORD;
        }
        if (!stock.pieces.holds(word)) {
            return MISSING_LETTER;
        }
        return stock.weigh(word) > budget ? OVER_BUDGET : 0;
    }

    private long bestFor(int budget) {
        long best = 0;
        int bestLength = 0;
        int bestCost = 0;
        for (int i = 0; i < dictionary.words().size(); i++) {
            long word = dictionary.words().word(i);
            int length = Words.lengthOf(word);
            if (length >= bestLength && stock.canSell(word, budget)) {
                int cost = stock.weigh(word);
                if (length > bestLength || cost < bestCost) {
                    best = word;
                    bestLength = length;
                    bestCost = cost;
                }
            }
        }
        return best;
    }

    private int handOver(long word) {
        int cost = stock.weigh(word);
        stock.pieces.take(word);
        accounts.writeReceipt(word, cost);
        return cost;
    }

    private void makePlan(long carcass, int most) {
        requireWord(carcass);
        requireRange(most, 1, Planner.MOST_WORDS);
        planner.plan(dictionary.fitting(carcass), carcass, most);
    }

    private void requireRoom(Pile pieces) {
        if (!stock.hasRoomFor(pieces)) {
            throw new IllegalStateException("there would be too many pieces of a letter");
        }
    }

    private void requireReceipts(int receipts) {
        if (!accounts.hasRoomFor(receipts)) {
            throw new IllegalStateException("no receipts are left");
        }
    }

    private Receipt requireReceipt(int receipt) {
        if (receipt < 0 || receipt >= accounts.receipts.size()) {
            throw new IndexOutOfBoundsException("there is no such receipt");
        }
        return accounts.receipts.get(receipt);
    }

    private static void requireWord(long word) {
        if (!Words.isWord(word)) {
            throw new IllegalArgumentException("not a word");
        }
    }

    private static void requireLetter(int letter) {
        requireRange(letter, 1, Words.LETTERS);
    }

    private static void requireBudget(int budget) {
        requireRange(budget, 0, MOST_BUDGET);
    }

    private static void requireRange(int value, int least, int greatest) {
        if (value < least || value > greatest) {
            throw new IllegalArgumentException("out of range");
        }
    }

    private static long requireWordOf(WordRow row, int index) {
        if (index < 0 || index >= row.size()) {
            throw new IndexOutOfBoundsException("no word has this index");
        }
        return row.word(index);
    }

    /** The reading of words that are given as numbers. */
    private static final class Words {
        static final int LETTERS = 26;
        static final int LONGEST = 12;
        static final int BITS = 5;
        static final int LETTER_MASK = 31;

        // A row has a place for each number that 5 bits can hold, so that no letter read from a number leaves it.
        static final int ROW = LETTER_MASK + 1;

        static boolean isWord(long number) {
            if (number <= 0 || number >= 1L << (BITS * LONGEST)) {
                return false;
            }
            int length = lengthOf(number);
            for (int behind = 0; behind < length; behind++) {
                int letter = letter(number, behind);
                if (letter < 1 || letter > LETTERS) {
                    return false;
                }
            }
            return true;
        }

        static int lengthOf(long word) {
            int length = 0;
            while (length < LONGEST && word >>> (BITS * length) != 0) {
                length++;
            }
            return length;
        }

        /** Answers the letter that has this number of letters behind it. */
        static int letter(long word, int behind) {
            return (int) (word >>> (BITS * behind)) & LETTER_MASK;
        }

        /** Answers a number that is smaller than another word's where the word comes before it. */
        static long rank(long word) {
            return word << (BITS * (LONGEST - lengthOf(word)));
        }

        static int occurrences(long word, int letter) {
            int length = lengthOf(word);
            int found = 0;
            for (int behind = 0; behind < length; behind++) {
                if (letter(word, behind) == letter) {
                    found++;
                }
            }
            return found;
        }
    }

    /** Pieces, counted by their letters. */
    private static final class Pile {
        private final int[] pieces = new int[Words.ROW];

        int count(int letter) {
            return pieces[letter & Words.LETTER_MASK];
        }

        int total() {
            int total = 0;
            for (int letter = 1; letter <= Words.LETTERS; letter++) {
                total += pieces[letter];
            }
            return total;
        }

        void clear() {
            for (int letter = 0; letter < Words.ROW; letter++) {
                pieces[letter] = 0;
            }
        }

        void putAll(Pile other) {
            for (int letter = 1; letter <= Words.LETTERS; letter++) {
                pieces[letter] += other.pieces[letter];
            }
        }

        void put(long word, int copies) {
            int length = Words.lengthOf(word);
            for (int behind = 0; behind < length; behind++) {
                pieces[Words.letter(word, behind)] += copies;
            }
        }

        /** Takes the pieces of the word, or none if one of them is missing. */
        boolean take(long word) {
            int length = Words.lengthOf(word);
            int taken = 0;
            while (taken < length && pieces[Words.letter(word, taken)] > 0) {
                pieces[Words.letter(word, taken)]--;
                taken++;
            }
            boolean whole = taken == length;
            while (!whole && taken > 0) {
                taken--;
                pieces[Words.letter(word, taken)]++;
            }
            return whole;
        }

        void takeOne(int letter) {
            pieces[letter & Words.LETTER_MASK]--;
        }

        boolean holds(long word) {
            boolean held = take(word);
            if (held) {
                put(word, 1);
            }
            return held;
        }

        int lacking(long word) {
            for (int letter = 1; letter <= Words.LETTERS; letter++) {
                if (pieces[letter] < Words.occurrences(word, letter)) {
                    return letter;
                }
            }
            return NONE;
        }
    }

    /** A row of words, at most as many as a dictionary has. */
    private static final class WordRow {
        static final int MOST_WORDS = 60;

        private final long[] words = new long[MOST_WORDS];
        private int count;

        int size() {
            return count;
        }

        boolean isFull() {
            return count >= MOST_WORDS;
        }

        /** Answers 0, which is no word, if no word has this index. */
        long word(int index) {
            return index >= 0 && index < count ? words[index] : 0;
        }

        void clear() {
            count = 0;
        }

        void append(long word) {
            insert(count, word);
        }

        void insert(int index, long word) {
            if (count >= MOST_WORDS || index < 0 || index > count) {
                return;
            }
            for (int i = count; i > index; i--) {
                words[i] = words[i - 1];
            }
            words[index] = word;
            count++;
        }

        void delete(int index) {
            if (index < 0 || index >= count) {
                return;
            }
            count--;
            for (int i = index; i < count; i++) {
                words[i] = words[i + 1];
            }
        }

        void copy(WordRow other) {
            count = other.count;
            for (int i = 0; i < count; i++) {
                words[i] = other.words[i];
            }
        }
    }

    /** The words that can be sold, in alphabetical order. */
    private static final class Dictionary {
        private final WordRow words = new WordRow();
        private final WordRow found = new WordRow();
        private final Pile carcass = new Pile();

        WordRow words() {
            return words;
        }

        boolean contains(long word) {
            return words.word(placeOf(word)) == word;
        }

        void insert(long word) {
            words.insert(placeOf(word), word);
        }

        void delete(long word) {
            words.delete(placeOf(word));
        }

        /** Answers a row that holds until the next search. */
        WordRow fitting(long word) {
            return search(word, 1);
        }

        /** Answers a row that holds until the next search. */
        WordRow anagrams(long word) {
            // A word that fits and is as long as the carcass has all its letters.
            return search(word, Words.lengthOf(word));
        }

        private WordRow search(long word, int leastLength) {
            carcass.clear();
            carcass.put(word, 1);
            found.clear();
            for (int i = 0; i < words.size(); i++) {
                long other = words.word(i);
                if (Words.lengthOf(other) >= leastLength && carcass.holds(other)) {
                    found.append(other);
                }
            }
            return found;
        }

        /** Answers the index of the first word that does not come before this one. */
        private int placeOf(long word) {
            long rank = Words.rank(word);
            int place = 0;
            while (place < words.size() && Words.rank(words.word(place)) < rank) {
                place++;
            }
            return place;
        }
    }

    /** The pieces for sale, and what they cost. */
    private static final class Stock {
        static final int MOST_PIECES = 999;
        static final int PLENTY = 10;
        static final int OUNCES = 16;

        final Pile pieces = new Pile();
        private final int[] basePrices = new int[Words.ROW];
        private final int[] weights = new int[Words.ROW];

        Stock() {
            for (int letter = 1; letter <= Words.LETTERS; letter++) {
                basePrices[letter] = firstPrice(letter);
                weights[letter] = weight(letter);
            }
        }

        int basePrice(int letter) {
            return basePrices[letter & Words.LETTER_MASK];
        }

        int changeBasePrice(int letter, int pence) {
            int before = basePrice(letter);
            basePrices[letter & Words.LETTER_MASK] = pence;
            return before;
        }

        int presentPrice(int letter) {
            int base = basePrice(letter);
            int scarcity = Math.max(0, PLENTY - pieces.count(letter));
            return base + base * scarcity / PLENTY;
        }

        int ounces(long word) {
            int length = Words.lengthOf(word);
            int sum = 0;
            for (int behind = 0; behind < length; behind++) {
                sum += weights[Words.letter(word, behind)];
            }
            return sum;
        }

        /** Answers the cost of a word that the stock holds. */
        int weigh(long word) {
            int sum = 0;
            for (int behind = Words.lengthOf(word) - 1; behind >= 0; behind--) {
                int letter = Words.letter(word, behind);
                sum += presentPrice(letter) * weights[letter];
                pieces.takeOne(letter);
            }
            pieces.put(word, 1);
            return (sum + OUNCES - 1) / OUNCES;
        }

        boolean canSell(long word, int budget) {
            return pieces.holds(word) && weigh(word) <= budget;
        }

        boolean hasRoomFor(Pile incoming) {
            for (int letter = 1; letter <= Words.LETTERS; letter++) {
                if (pieces.count(letter) + incoming.count(letter) > MOST_PIECES) {
                    return false;
                }
            }
            return true;
        }

        private static int firstPrice(int letter) {
            if (isAmong("aeiou", letter)) {
                return 40;
            }
            return isAmong("jqxz", letter) ? 90 : 60;
        }

        private static int weight(int letter) {
            if (isAmong("aeiou", letter)) {
                return 2;
            }
            return isAmong("mw", letter) ? 5 : 3;
        }

        private static boolean isAmong(String letters, int letter) {
            return letters.indexOf((char) ('a' - 1 + letter)) >= 0;
        }
    }

    /** The search for the best plan. */
    private static final class Planner {
        static final int MOST_WORDS = 3;

        private final Pile left = new Pile();
        private final WordRow chosen = new WordRow();
        private final WordRow best = new WordRow();
        private int bestLetters;
        private int longest;

        WordRow best() {
            return best;
        }

        Pile leftovers() {
            return left;
        }

        void plan(WordRow fitting, long carcass, int most) {
            left.clear();
            left.put(carcass, 1);
            best.clear();
            bestLetters = 0;
            longest = longestOf(fitting);
            // Shorter plans are tried first, and those of equal length in alphabetical order:
            // so a later plan is better only if it has more letters.
            for (int places = 1; places <= most && places <= MOST_WORDS; places++) {
                fillPlaces(fitting, places, 0, 0);
            }
            for (int i = 0; i < best.size(); i++) {
                left.take(best.word(i));
            }
        }

        private static int longestOf(WordRow row) {
            int longest = 0;
            for (int i = 0; i < row.size(); i++) {
                longest = Math.max(longest, Words.lengthOf(row.word(i)));
            }
            return longest;
        }

        private void fillPlaces(WordRow fitting, int places, int from, int letters) {
            if (places < 1 || places > MOST_WORDS) {
                return;
            }
            for (int i = from; i < fitting.size(); i++) {
                int together = letters + Words.lengthOf(fitting.word(i));
                int atMost = together + (places - 1) * longest;
                if (atMost > bestLetters) {
                    tryWord(fitting, places, i, together);
                }
            }
        }

        private void tryWord(WordRow fitting, int places, int index, int letters) {
            long word = fitting.word(index);
            if (!left.take(word)) {
                return;
            }
            chosen.append(word);
            if (places > 1) {
                fillPlaces(fitting, places - 1, index, letters);
            } else {
                best.copy(chosen);
                bestLetters = letters;
            }
            chosen.delete(chosen.size() - 1);
            left.put(word, 1);
        }
    }

    /** What a sold word's buyer was given. */
    private static final class Receipt {
        final long word;
        final int price;
        boolean returned;

        Receipt(long word, int price) {
            this.word = word;
            this.price = price;
        }

        int refund() {
            return price - price / 10;
        }
    }

    /** The receipts, the money, and the pieces that came in and went out. */
    private static final class Accounts {
        // The document's 512 calls, each of them a spend of 20 words, write no more.
        static final int MOST_RECEIPTS = 512 * MOST_SALES;

        final List<Receipt> receipts = new ArrayList<>();
        final Pile cameIn = new Pile();
        final Pile sold = new Pile();
        int balance;

        boolean hasRoomFor(int more) {
            return receipts.size() + more <= MOST_RECEIPTS;
        }

        void writeReceipt(long word, int price) {
            receipts.add(new Receipt(word, price));
            balance += price;
            sold.put(word, 1);
        }

        void giveBack(Receipt receipt) {
            receipt.returned = true;
            balance -= receipt.refund();
            sold.put(receipt.word, -1);
        }
    }
}
