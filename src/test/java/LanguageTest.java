import java.io.IOException;
import java.nio.file.Files;
import java.nio.file.Path;
import java.util.List;
import java.util.Set;
import java.util.TreeSet;
import java.util.stream.Collectors;

/** The class is within the rules of LANGUAGE.md; and what is outside of one of them is told. */
public final class LanguageTest {
    private static final Path CLASS = Path.of("src", "main", "java", "ModelCopies.java");

    /** Each is outside of the rules that are named, and of no others. */
    private static final String[][] OUTSIDE = {
        {"1", "package p; public final class ModelCopies { }"},
        {"1", "public class ModelCopies { }"},
        {"1", "public final class ModelCopies { } final class Second { }"},
        {"1", "private final class Inner { }"},
        {"1", "public static final class Open { }"},
        {"1", "protected static final class Open { }"},
        {"2", "private void f() { class Local { } }"},
        {"2", "private interface F { int f(); } private F g() { return () -> 1; }"},
        {"2", "private interface F { int f(); } private static int f() { return 1; }"
            + " private F g() { return ModelCopies::f; }"},
        {"3", "private Object f;"},
        {"3", "private void f() { Iterable<Integer> f = null; }"},
        {"3", "private void f(String[] f) { }"},
        {"3", "private boolean[][] f() { return null; }"},
        {"3", "private int[][][] f;"},
        {"3", "private ArrayList<String> f;"},
        {"3", "private ArrayList<int[]> f;"},
        {"3", "private static int f() { return new int[1][1][1].length; }"},
        {"4", "private int f() { return Math.addExact(1, 2); }"},
        {"4", "private int f() { return Integer.MAX_VALUE; }"},
        {"4", "private int f(double d) { return Math.round((float) d); }"},
        {"4", "private int f(ArrayList<Integer> list) { return list.indexOf(1); }"},
        {"4", "private String f() { return String.valueOf(1); }"},
        {"4", "private boolean f(String a) { return a.equalsIgnoreCase(a); }"},
        {"4", "private long f() { return System.nanoTime(); }"},
        {"4", "private void f(int[] f) { Arrays.sort(f); }"},
        {"4", "private double f() { return Math.random(); }"},
        {"4", "private String f() { return \"\u00e9\"; }"},
        {"4", "private static class F extends Thread { }"},
        {"5", "private static int f;"},
        {"5", "private static int f = 1;"},
        {"5", "private static final Integer F = 1;"},
        {"5", "private static final int[] F = new int[3];"},
        {"5", "private static final boolean[] F = {true};"},
        {"5", "static { }"},
        {"4 6", "private void f() { throw new NullPointerException(); }"},
        {"3 6", "private void f(RuntimeException e) { throw e; }"},
        {"6", "private void f(String s) { throw new IllegalStateException(s); }"},
        {"6", "public ModelCopies() { throw new IllegalStateException(); }"},
        {"6", "private void f() { try { f(0); } finally { } } private void f(int i) { }"},
        {"6", "private void f() { try { f(0); } catch (Exception e) { } } private void f(int i) { }"},
        {"6", "private void f() { try { f(0); } catch (NullPointerException e) { } } private void f(int i) { }"},
        {"6", "private void f() { synchronized (this) { } }"},
        {"6", "private synchronized void f() { }"},
        {"6", "private void f() { assert true; }"},
        {"6", "public String toString() { return \"\"; }"},
        {"6", "private boolean f(String a, String b) { return a == b; }"},
        {"6", "private boolean f(Integer a, Integer b) { return a != b; }"},
        {"6", "private static class F extends RuntimeException { }"},
        {"7", "private int f(int[] a, int i) { return a[i]; }"},
        {"7", "private int f(int[] a, int i) { return a[i - 1] + (i > 0 ? 1 : 0); }"},
        {"7", "private int f(ArrayList<Integer> a, int i) { return a.get(i); }"},
        {"7", "private char f(String a, int i) { return a.charAt(i); }"},
        {"7", "private int f(int a, int b) { return a / b; }"},
        {"7", "private int f(int a, int b) { return a % b; }"},
        {"7", "private int[] f(int length) { return new int[length]; }"},
        {"7", "private interface F { } private static final class G implements F { }"
            + " private G f(F f) { return (G) f; }"},
        {"8", "private int f(int i) { return i == 0 ? 0 : f(i - 1); }"},
        {"8", "private void f() { g(); } private void g() { f(); }"},
        {"9", "private void f() { while (true) { } }"},
        {"9", "private void f() { do { } while (true); }"},
        {"9", "private void f() { for (int i = 0;; i++) { } }"},
        {"9", "private void f() { for (int i = 0; i < 1;) { } }"},
        {"10", "private String f(String a) { return a + 1; }"},
        {"10", "private String f(String a) { a += 1; return a; }"},
        {"11", "private void f(int a, int b, int c, int d, int e, int f, int g, int h) { }"},
        {"11", "private void f() {" + "\n".repeat(60) + "}"},
        {"11", numbered("private static final class F# { }", 12)},
        {"11", numbered("private int f#;", 21)},
        {"11", numbered("private void f#1() { f#(); }", 8) + "private void f() { }"},
        {"12", "private void f(ArrayList<Integer> list) { for (int i : list) { } }"},
        {"12", "public ModelCopies() { f(this); } private static void f(ModelCopies f) { }"},
        {"12", "private static class F { F() { f(); } void f() { } }"},
    };

    private static final String[] WITHIN = {
        "private enum Kind { A(1) { int f() { return 2; } }, B(2); final int n; Kind(int n) { this.n = n; }"
            + " int f() { return n; } } private static final Kind[] KINDS = Kind.values();",
        "private record Pair(int one, int other) { int both() { return one + other; } }",
        "private interface F { default int f() { return 1; } static int g() { return 2; } }"
            + " private static abstract class G implements F { } private static final class H extends G { }",
        "private static final class F implements Iterator<Integer> { public boolean hasNext() { return false; }"
            + " public Integer next() { return 1; } }",
        "private static final class Box<T> { T held; }",
        "private static final int[] F = {1, 2}; private static final String S = \"s\"; private final long[][] l = {};",
        "private int f(int[] all) { int sum = 0; for (int one : all) { sum += one; } return sum + all.length; }",
        "private int f(ArrayList<Integer> list) { return list.isEmpty() ? Math.floorMod(1, 2) : list.get(0); }",
        "private String f(int i) { return new StringBuilder().append(\"a\").append(i).append('c').toString(); }",
        "private int[] f(int[] a) { System.arraycopy(a, 0, a, 0, 0); Arrays.fill(a, 1); return a.clone(); }",
        "private int f() { try { return g(); } catch (IllegalStateException e) { return 1; } }"
            + " private int g() { throw new IllegalStateException(\"why\"); }",
        "private int f(int[] a, int i) { return i >= 0 && i < a.length ? a[i] : 0; }",
        "private int f(int[] a, int i) { return g(i) ? a[i] : 0; } private static boolean g(int i) { return i == 0; }",
        "private static final int N = 3; private int f(int a, int b) { return a / N + (b == 0 ? 0 : a % b); }",
        "private int[] f(int length) { return length < 0 ? null : new int[length]; }",
        "private interface F { } private static final class G implements F { }"
            + " private G f(F f) { return f instanceof G ? (G) f : null; } private int f(long n) { return (int) n; }",
        "private boolean f(String a, ModelCopies b) { return a == null || b == this || a.equals(\"\"); }",
        "private void f(int a, int b, int c, int d, int e, int f, int g) {" + "\n".repeat(59) + "}",
        numbered("private static final class F# { }", 11),
        numbered("private int f#;", 20),
        numbered("private void f#1() { f#(); }", 7) + "private void f() { }",
    };

    private static int wrong = 0;

    public static void main(String[] args) throws IOException {
        for (String[] sample : OUTSIDE) {
            List<String> faults = Language.faults(whole(sample[1]));
            boolean isTold = rulesOf(faults).equals(new TreeSet<>(List.of(sample[0].split(" "))));
            hold(isTold, "outside of rule " + sample[0] + " is " + sample[1] + ", told is " + faults);
        }
        for (String sample : WITHIN) {
            List<String> faults = Language.faults(whole(sample));
            hold(faults.isEmpty(), "within the rules is " + sample + ", told is " + faults);
        }
        List<String> faults = Language.faults(Files.readString(CLASS));
        hold(faults.isEmpty(), "in the class: " + faults);
        System.out.println("LanguageTest: " + OUTSIDE.length + " samples outside, " + WITHIN.length + " within, "
                + wrong + " not as due");
        System.exit(wrong == 0 ? 0 : 1);
    }

    private static Set<String> rulesOf(List<String> faults) {
        return faults.stream().map(fault -> fault.replaceFirst("rule (\\d+),.*", "$1"))
                .collect(Collectors.toCollection(TreeSet::new));
    }

    private static void hold(boolean is, String what) {
        if (!is) {
            wrong++;
            System.out.println(what);
        }
    }

    private static String whole(String sample) {
        return sample.contains("class ModelCopies") ? sample
                : "import java.util.*; public final class ModelCopies { " + sample + " }";
    }

    /** The sign # becomes as many ones as the part's number: none, 1, 11, ... */
    private static String numbered(String part, int times) {
        StringBuilder parts = new StringBuilder();
        for (int number = 0; number < times; number++) {
            parts.append(part.replace("#", "1".repeat(number))).append(' ');
        }
        return parts.toString();
    }
}
