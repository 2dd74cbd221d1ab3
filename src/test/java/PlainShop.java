import java.util.ArrayList;
import java.util.List;
import java.util.NoSuchElementException;
import java.util.TreeSet;

/** The document once more, on texts and collections and without a thought of speed: what ModelTest compares with. */
final class PlainShop {
    private record Receipt(String word, int price, boolean[] returned) { }

    private final TreeSet<String> dictionary = new TreeSet<>();
    private final int[] stock = new int[27];
    private final int[] basePrice = new int[27];
    private final int[] cameIn = new int[27];
    private final List<Receipt> receipts = new ArrayList<>();

    PlainShop() {
        for (int letter = 1; letter <= 26; letter++) {
            basePrice[letter] = vowel(letter) ? 40 : "jqxz".indexOf(sign(letter)) >= 0 ? 90 : 60;
        }
    }

    /** Answers what the call answers or the name of what it throws. */
    String call(String method, long word, int first, int second) {
        try {
            return Long.toString(answer(method, word, first, second));
        } catch (RuntimeException thrown) {
            return thrown.getClass().getSimpleName();
        }
    }

    private long answer(String method, long number, int first, int second) {
        return switch (method) {
            case "addWord" -> addWord(text(number));
            case "removeWord" -> removeWord(text(number));
            case "wordCount" -> dictionary.size();
            case "wordAt" -> number(at(new ArrayList<>(dictionary), first));
            case "hasWord" -> dictionary.contains(text(number)) ? 1 : 0;
            case "anagramCount" -> anagrams(text(number)).size();
            case "anagramAt" -> number(at(anagrams(text(number)), first));
            case "largestAnagramGroup" -> dictionary.stream().mapToInt(w -> anagrams(w).size()).max().orElse(0);
            case "fittingCount" -> fitting(text(number)).size();
            case "fittingWord" -> number(at(fitting(text(number)), first));
            case "cut" -> cut(text(number), range(first, 1, 50));
            case "stockOf" -> stock[range(first, 1, 26)];
            case "totalStock" -> totalStock();
            case "setBasePrice" -> setBasePrice(range(first, 1, 26), range(second, 1, 999));
            case "basePriceOf" -> basePrice[range(first, 1, 26)];
            case "presentPriceOf" -> price(range(first, 1, 26), stock[first]);
            case "weightOf" -> text(number).chars().map(c -> weight(c - 96)).sum();
            case "costOf" -> costOf(text(number));
            case "missingLetter" -> missing(text(number));
            case "refusalOf" -> refusal(text(number), range(first, 0, 99999));
            case "sell" -> sell(text(number), range(first, 0, 99999));
            case "affordableWords" -> affordable(range(first, 0, 99999)).size();
            case "bestWord" -> bestWord(range(first, 0, 99999));
            case "spend" -> spend(range(first, 0, 99999));
            case "planLength" -> plan(text(number), range(first, 1, 3)).size();
            case "planWord" -> number(at(plan(text(number), range(first, 1, 3)), second));
            case "leftoverCount" -> leftovers(text(number), plan(text(number), range(first, 1, 3))).length();
            case "cutToOrder" -> cutToOrder(text(number), range(first, 1, 3));
            case "receiptCount" -> receipts.size();
            case "receiptWord" -> number(at(receipts, first).word());
            case "receiptPrice" -> at(receipts, first).price();
            case "isReturned" -> at(receipts, first).returned()[0] ? 1 : 0;
            case "takeBack" -> takeBack(at(receipts, first));
            case "takings" -> receipts.stream().mapToInt(r -> r.price() - (r.returned()[0] ? refund(r) : 0)).sum();
            case "cameIn" -> cameIn[range(first, 1, 26)];
            case "soldPieces" -> soldPieces(range(first, 1, 26));
            default -> throw new AssertionError(method);
        };
    }

    private int addWord(String word) {
        if (dictionary.contains(word) || dictionary.size() == 60) {
            throw new IllegalStateException();
        }
        dictionary.add(word);
        return dictionary.size();
    }

    private int removeWord(String word) {
        if (!dictionary.remove(word)) {
            throw new NoSuchElementException();
        }
        return dictionary.size();
    }

    private List<String> anagrams(String word) {
        return dictionary.stream().filter(w -> sorted(w).equals(sorted(word))).toList();
    }

    private List<String> fitting(String carcass) {
        return dictionary.stream().filter(w -> leftovers(carcass, List.of(w)) != null).toList();
    }

    private int cut(String word, int copies) {
        String pieces = word.repeat(copies);
        putIn(pieces);
        count(cameIn, pieces);
        return totalStock();
    }

    private int totalStock() {
        int total = 0;
        for (int pieces : stock) {
            total += pieces;
        }
        return total;
    }

    private int setBasePrice(int letter, int pence) {
        int before = basePrice[letter];
        basePrice[letter] = pence;
        return before;
    }

    private int price(int letter, int pieces) {
        int scarcity = pieces >= 10 ? 0 : 10 - pieces;
        return basePrice[letter] + basePrice[letter] * scarcity / 10;
    }

    private int costOf(String word) {
        if (missing(word) != -1) {
            throw new NoSuchElementException();
        }
        int[] left = stock.clone();
        int sum = 0;
        for (char sign : word.toCharArray()) {
            sum += price(sign - 96, left[sign - 96]--) * weight(sign - 96);
        }
        return sum % 16 == 0 ? sum / 16 : sum / 16 + 1;
    }

    private int missing(String word) {
        for (int letter = 1; letter <= 26; letter++) {
            char sign = sign(letter);
            if (word.chars().filter(c -> c == sign).count() > stock[letter]) {
                return letter;
            }
        }
        return -1;
    }

    private int refusal(String word, int budget) {
        return !dictionary.contains(word) ? 1 : missing(word) != -1 ? 2 : costOf(word) > budget ? 3 : 0;
    }

    private int sell(String word, int budget) {
        if (refusal(word, budget) != 0) {
            throw new IllegalStateException();
        }
        int cost = costOf(word);
        for (char sign : word.toCharArray()) {
            stock[sign - 96]--;
        }
        receipts.add(new Receipt(word, cost, new boolean[1]));
        return cost;
    }

    private List<String> affordable(int budget) {
        return dictionary.stream().filter(w -> refusal(w, budget) == 0).toList();
    }

    private long bestWord(int budget) {
        List<String> words = new ArrayList<>(affordable(budget));
        words.sort((a, b) -> a.length() != b.length() ? b.length() - a.length()
                : costOf(a) != costOf(b) ? costOf(a) - costOf(b) : a.compareTo(b));
        return words.isEmpty() ? 0 : number(words.get(0));
    }

    private int spend(int budget) {
        int sold = 0;
        int left = budget;
        while (sold < 20 && bestWord(left) != 0) {
            left -= sell(text(bestWord(left)), left);
            sold++;
        }
        return sold;
    }

    private List<String> plan(String carcass, int most) {
        List<String> best = List.of();
        List<List<String>> plans = List.of(List.of());
        for (int i = 0; i < most; i++) {
            List<List<String>> longer = new ArrayList<>();
            for (List<String> plan : plans) {
                for (String word : fitting(carcass)) {
                    List<String> more = new ArrayList<>(plan);
                    more.add(word);
                    boolean inOrder = plan.isEmpty() || plan.get(plan.size() - 1).compareTo(word) <= 0;
                    if (inOrder && leftovers(carcass, more) != null) {
                        longer.add(more);
                        best = betterOf(best, more);
                    }
                }
            }
            plans = longer;
        }
        return best;
    }

    private static List<String> betterOf(List<String> a, List<String> b) {
        int letters = String.join("", a).length() - String.join("", b).length();
        if (letters != 0) {
            return letters > 0 ? a : b;
        }
        if (a.size() != b.size()) {
            return a.size() < b.size() ? a : b;
        }
        for (int i = 0; i < a.size(); i++) {
            if (!a.get(i).equals(b.get(i))) {
                return a.get(i).compareTo(b.get(i)) < 0 ? a : b;
            }
        }
        return a;
    }

    /** Answers null if a letter is missing. */
    private static String leftovers(String carcass, List<String> words) {
        String left = carcass;
        for (char sign : String.join("", words).toCharArray()) {
            int place = left.indexOf(sign);
            if (place < 0) {
                return null;
            }
            left = left.substring(0, place) + left.substring(place + 1);
        }
        return left;
    }

    private int cutToOrder(String carcass, int most) {
        List<String> plan = plan(carcass, most);
        String left = leftovers(carcass, plan);
        putIn(left);
        count(cameIn, carcass);
        for (String word : plan) {
            receipts.add(new Receipt(word, 2 * word.length(), new boolean[1]));
        }
        return left.length();
    }

    private int takeBack(Receipt receipt) {
        if (receipt.returned()[0]) {
            throw new IllegalStateException();
        }
        putIn(receipt.word());
        receipt.returned()[0] = true;
        return refund(receipt);
    }

    private static int refund(Receipt receipt) {
        return receipt.price() - receipt.price() / 10;
    }

    private int soldPieces(int letter) {
        char sign = sign(letter);
        return (int) receipts.stream().filter(r -> !r.returned()[0])
                .flatMapToInt(r -> r.word().chars()).filter(c -> c == sign).count();
    }

    private void putIn(String pieces) {
        int[] after = stock.clone();
        count(after, pieces);
        for (int number : after) {
            if (number > 999) {
                throw new IllegalStateException();
            }
        }
        count(stock, pieces);
    }

    private static void count(int[] row, String pieces) {
        for (char sign : pieces.toCharArray()) {
            row[sign - 96]++;
        }
    }

    private static <T> T at(List<T> list, int index) {
        if (index < 0 || index >= list.size()) {
            throw new IndexOutOfBoundsException();
        }
        return list.get(index);
    }

    private static int range(int value, int least, int greatest) {
        if (value < least || value > greatest) {
            throw new IllegalArgumentException();
        }
        return value;
    }

    private static String sorted(String word) {
        char[] signs = word.toCharArray();
        java.util.Arrays.sort(signs);
        return new String(signs);
    }

    private static boolean vowel(int letter) {
        return "aeiou".indexOf(sign(letter)) >= 0;
    }

    private static int weight(int letter) {
        return vowel(letter) ? 2 : "mw".indexOf(sign(letter)) >= 0 ? 5 : 3;
    }

    private static char sign(int letter) {
        return (char) (96 + letter);
    }

    private static long number(String word) {
        return Checks.word(word);
    }

    private static String text(long number) {
        String digits = number > 0 ? Long.toString(number, 32) : "0";
        StringBuilder word = new StringBuilder();
        for (char digit : digits.toCharArray()) {
            int letter = Character.digit(digit, 32);
            if (letter < 1 || letter > 26) {
                throw new IllegalArgumentException();
            }
            word.append(sign(letter));
        }
        if (word.length() > 12) {
            throw new IllegalArgumentException();
        }
        return word.toString();
    }
}
