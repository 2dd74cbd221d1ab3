import java.lang.reflect.Constructor;
import java.lang.reflect.Field;
import java.lang.reflect.Method;
import java.lang.reflect.Modifier;
import java.util.Arrays;
import java.util.Set;
import java.util.TreeSet;
import java.util.stream.Collectors;

/** The public face: just the document's members, their exceptions, and the constants' values. */
final class FaceTest {
    private static final Checks CHECKS = new Checks("FaceTest");

    /** The methods, each with its exceptions in the order in which they are thrown. */
    private static final String[] METHODS = {
        "int addWord(long) throws IllegalArgumentException, IllegalStateException",
        "int removeWord(long) throws IllegalArgumentException, NoSuchElementException",
        "int wordCount()",
        "long wordAt(int) throws IndexOutOfBoundsException",
        "boolean hasWord(long) throws IllegalArgumentException",
        "int anagramCount(long) throws IllegalArgumentException",
        "long anagramAt(long,int) throws IllegalArgumentException, IndexOutOfBoundsException",
        "int largestAnagramGroup()",
        "int fittingCount(long) throws IllegalArgumentException",
        "long fittingWord(long,int) throws IllegalArgumentException, IndexOutOfBoundsException",
        "int cut(long,int) throws IllegalArgumentException, IllegalStateException",
        "int stockOf(int) throws IllegalArgumentException",
        "int totalStock()",
        "int setBasePrice(int,int) throws IllegalArgumentException",
        "int basePriceOf(int) throws IllegalArgumentException",
        "int presentPriceOf(int) throws IllegalArgumentException",
        "int weightOf(long) throws IllegalArgumentException",
        "int costOf(long) throws IllegalArgumentException, NoSuchElementException",
        "int missingLetter(long) throws IllegalArgumentException",
        "int refusalOf(long,int) throws IllegalArgumentException",
        "int sell(long,int) throws IllegalArgumentException, IllegalStateException",
        "int affordableWords(int) throws IllegalArgumentException",
        "long bestWord(int) throws IllegalArgumentException",
        "int spend(int) throws IllegalArgumentException",
        "int planLength(long,int) throws IllegalArgumentException",
        "long planWord(long,int,int) throws IllegalArgumentException, IndexOutOfBoundsException",
        "int leftoverCount(long,int) throws IllegalArgumentException",
        "int cutToOrder(long,int) throws IllegalArgumentException, IllegalStateException",
        "int receiptCount()",
        "long receiptWord(int) throws IndexOutOfBoundsException",
        "int receiptPrice(int) throws IndexOutOfBoundsException",
        "boolean isReturned(int) throws IndexOutOfBoundsException",
        "int takeBack(int) throws IndexOutOfBoundsException, IllegalStateException",
        "int takings()",
        "int cameIn(int) throws IllegalArgumentException",
        "int soldPieces(int) throws IllegalArgumentException",
    };

    private static final String CONSTANTS = "[public static final int AnagramButcher.MISSING_LETTER, "
            + "public static final int AnagramButcher.NONE, public static final int AnagramButcher.OVER_BUDGET, "
            + "public static final int AnagramButcher.UNKNOWN_WORD]";

    public static void main(String[] args) {
        CHECKS.equal("NONE", -1, AnagramButcher.NONE);
        CHECKS.equal("UNKNOWN_WORD", 1, AnagramButcher.UNKNOWN_WORD);
        CHECKS.equal("MISSING_LETTER", 2, AnagramButcher.MISSING_LETTER);
        CHECKS.equal("OVER_BUDGET", 3, AnagramButcher.OVER_BUDGET);
        Class<?> shop = AnagramButcher.class;
        CHECKS.equal("public and final", Modifier.PUBLIC | Modifier.FINAL, shop.getModifiers());
        CHECKS.equal("the constructors", "[public AnagramButcher()]", Arrays.toString(constructors(shop)));
        CHECKS.equal("the methods", dueMethods(), methods(shop));
        CHECKS.equal("the constants", CONSTANTS, fields(shop).toString());
        for (Class<?> inside : shop.getDeclaredClasses()) {
            CHECKS.equal(inside + " is static and not public", true,
                    Modifier.isStatic(inside.getModifiers()) && !Modifier.isPublic(inside.getModifiers()));
        }
        CHECKS.close();
    }

    private static Constructor<?>[] constructors(Class<?> shop) {
        return shop.getDeclaredConstructors();
    }

    private static Set<String> dueMethods() {
        Set<String> due = new TreeSet<>();
        for (String method : METHODS) {
            due.add("public " + method);
        }
        return due;
    }

    private static Set<String> methods(Class<?> shop) {
        Set<String> found = new TreeSet<>();
        for (Method method : shop.getDeclaredMethods()) {
            if (!Modifier.isPrivate(method.getModifiers())) {
                String modifiers = Modifier.toString(method.getModifiers());
                String parameters = names(method.getParameterTypes(), ",");
                String exceptions = names(method.getExceptionTypes(), ", ");
                found.add(modifiers + " " + method.getReturnType() + " " + method.getName() + "(" + parameters + ")"
                        + (exceptions.isEmpty() ? "" : " throws " + exceptions));
            }
        }
        return found;
    }

    private static String names(Class<?>[] types, String between) {
        return Arrays.stream(types).map(Class::getSimpleName).collect(Collectors.joining(between));
    }

    private static Set<String> fields(Class<?> shop) {
        Set<String> found = new TreeSet<>();
        for (Field field : shop.getDeclaredFields()) {
            if (!Modifier.isPrivate(field.getModifiers())) {
                found.add(field.toString());
            }
        }
        return found;
    }
}
