import java.lang.reflect.Constructor;
import java.lang.reflect.Field;
import java.lang.reflect.Method;
import java.lang.reflect.Modifier;
import java.util.Arrays;
import java.util.Set;
import java.util.TreeSet;

/** The public face: just the document's members, and the constants' values. */
final class FaceTest {
    private static final Checks CHECKS = new Checks("FaceTest");

    private static final String[] METHODS = {
        "int addWord(long)", "int removeWord(long)", "int wordCount()", "long wordAt(int)", "boolean hasWord(long)",
        "int anagramCount(long)", "long anagramAt(long,int)", "int largestAnagramGroup()", "int fittingCount(long)",
        "long fittingWord(long,int)", "int cut(long,int)", "int stockOf(int)", "int totalStock()",
        "int setBasePrice(int,int)", "int basePriceOf(int)", "int presentPriceOf(int)", "int weightOf(long)",
        "int costOf(long)", "int missingLetter(long)", "int refusalOf(long,int)", "int sell(long,int)",
        "int affordableWords(int)", "long bestWord(int)", "int spend(int)", "int planLength(long,int)",
        "long planWord(long,int,int)", "int leftoverCount(long,int)", "int cutToOrder(long,int)",
        "int receiptCount()", "long receiptWord(int)", "int receiptPrice(int)", "boolean isReturned(int)",
        "int takeBack(int)", "int takings()", "int cameIn(int)", "int soldPieces(int)",
    };

    private static final String CONSTANTS = "[public static final int AnagramButcher.MISSING_LETTER, "
            + "public static final int AnagramButcher.NONE, public static final int AnagramButcher.OVER_BUDGET, "
            + "public static final int AnagramButcher.UNKNOWN_WORD]";

    public static void main(String[] args) {
        CHECKS.equal("NONE", -1, AnagramButcher.NONE);
        CHECKS.equal("UNKNOWN_WORD", 1, AnagramButcher.UNKNOWN_WORD);
        CHECKS.equal("MISSING_LETTER", 2, AnagramButcher.MISSING_LETTER);
        CHECKS.equal("OVER_BUDGET", 3, AnagramButcher.OVER_BUDGET);
        Class<?> shop = AnagramButcher.class;
        CHECKS.equal("public and final", Modifier.PUBLIC | Modifier.FINAL, shop.getModifiers());
        CHECKS.equal("the constructors", "[public AnagramButcher()]", Arrays.toString(constructors(shop)));
        CHECKS.equal("the methods", dueMethods(), methods(shop));
        CHECKS.equal("the constants", CONSTANTS, fields(shop).toString());
        for (Class<?> inside : shop.getDeclaredClasses()) {
            CHECKS.equal(inside + " is static and not public", true,
                    Modifier.isStatic(inside.getModifiers()) && !Modifier.isPublic(inside.getModifiers()));
        }
        CHECKS.close();
    }

    private static Constructor<?>[] constructors(Class<?> shop) {
        return shop.getDeclaredConstructors();
    }

    private static Set<String> dueMethods() {
        Set<String> due = new TreeSet<>();
        for (String method : METHODS) {
            due.add("public " + method);
        }
        return due;
    }

    private static Set<String> methods(Class<?> shop) {
        Set<String> found = new TreeSet<>();
        for (Method method : shop.getDeclaredMethods()) {
            if (!Modifier.isPrivate(method.getModifiers())) {
                String parameters = Arrays.stream(method.getParameterTypes()).map(Class::getName)
                        .collect(java.util.stream.Collectors.joining(","));
                String modifiers = Modifier.toString(method.getModifiers());
                found.add(modifiers + " " + method.getReturnType() + " " + method.getName() + "(" + parameters + ")");
            }
        }
        return found;
    }

    private static Set<String> fields(Class<?> shop) {
        Set<String> found = new TreeSet<>();
        for (Field field : shop.getDeclaredFields()) {
            if (!Modifier.isPrivate(field.getModifiers())) {
                found.add(field.toString());
            }
        }
        return found;
    }
}
