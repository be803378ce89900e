import java.io.IOException;
import java.nio.file.Files;
import java.nio.file.Path;
import java.util.Set;

/** Small programs that each break one rule: SourceRulesTest must see it, and nothing in the one that keeps them all. */
final class SourceRulesSamples {
    private static final String KEEPS = "private int a = 1; public int f(int n) { int s = 0;"
        + " for (int i = 0; i < n; i++) { s += Math.max(g(i), a); } return s; } private int g(int i) { return i; }";
    private static final String[][] BREAKS = {
        {"1", "int f() { return 1; }"},
        {"1", "public int f() { return g.f(); } private final G g = new G(); static final class G {"
            + " int h() { return f(); } private int f() { return 1; } }"},
        {"2", "public int f() { class G { } return 1; }"},
        {"2", "public int f() { return 1; } private final class G { }"},
        {"3", "private double d = 0; public int f() { return (int) d; }"},
        {"3", "private int[][][] d = new int[1][1][1]; public int f() { return d.length; }"},
        {"3", "private final Object o = new Object(); public boolean f() { return o == null; }"},
        {"4", "public int f() { return Integer.MIN_VALUE; }"},
        {"4", "public int f() { return Math.addExact(1, 2); }"},
        {"4", "public int f() { return (int) Math.floor(1); }"},
        {"4", "public int f() { return new int[1].hashCode(); }"},
        {"4", "public int f() { return (int) System.nanoTime(); }"},
        {"4", "private final String s = \"\u00e9\"; public int f() { return 1; }"},
        {"5", "private static int a = 1; public int f() { return a; }"},
        {"5", "private static final int[] A = {1}; public int f() { A[0] = 2; return A[0]; }"},
        {"5", "static { } public int f() { return 1; }"},
        {"6", "public int f(int n) { if (n < 0) { throw new IllegalArgumentException(); } return n; }"},
        {"6", "public int f(int n) { try { return 1 / n; } finally { n = 0; } }"},
        {"6", "public int f(int n) { assert n > 0; return n; }"},
        {"6", "public boolean f(String a, String b) { return a == b; }"},
        {"7", "public int f(Object o) { G g = (G) o; return g.n; } private static final class G { int n = 1; }"},
        {"8", "public int f(int n) { return n < 1 ? 0 : g(n); } private int g(int n) { return f(n - 1); }"},
        {"9", "public int f(int n) { while (n != 0) { n = n / 2; } return n; }"},
        {"9", "public int f(int n) { for (;;) { if (n++ > 9) { return n; } } }"},
        {"10", "public int f(int n) { String s = \"a\" + n; return n; }"},
        {"11", "public int f(int a, int b, int c, int d, int e, int g, int h, int i) { return a; }"},
        {"11", "public int f() { return a(); } private int a() { return b(); } private int b() { return c(); }"
            + " private int c() { return d(); } private int d() { return e(); } private int e() { return g(); }"
            + " private int g() { return h(); } private int h() { return i(); } private int i() { return 1; }"},
        {"11", "public int f(int n) {" + "\nn++;".repeat(60) + "\nreturn n; }"},
        {"11", "private int a0" + fields() + "; public int f() { return a0; }"},
        {"11", "public int f() { return 1; } " + classes()},
        {"12", "public int f(int n) { int[] a = new int[9]; return a.length + n; }"},
    };

    private SourceRulesSamples() {
    }

    private static String fields() {
        StringBuilder names = new StringBuilder();
        for (int i = 1; i <= 20; i++) {
            names.append(", a").append(i);
        }
        return names.toString();
    }

    private static String classes() {
        StringBuilder all = new StringBuilder();
        for (int i = 1; i <= 12; i++) {
            all.append("private static final class G").append(i).append(" { } ");
        }
        return all.toString();
    }

    static void check() throws IOException {
        Path directory = Files.createTempDirectory("rules");
        try {
            Path file = directory.resolve("Sample.java");
            Set<String> broken = brokenBy(file, KEEPS);
            if (!broken.isEmpty()) {
                SourceRulesTest.complain("a program that keeps the rules: " + broken);
            }
            for (String[] sample : BREAKS) {
                Set<String> seen = brokenBy(file, sample[1]);
                if (seen.stream().noneMatch(rule -> rule.matches("rule " + sample[0] + "\\b.*"))) {
                    SourceRulesTest.complain("rule " + sample[0] + " is broken, seen was " + seen + ": " + sample[1]);
                }
            }
        } finally {
            Files.deleteIfExists(directory.resolve("Sample.java"));
            Files.deleteIfExists(directory);
        }
    }

    private static Set<String> brokenBy(Path file, String members) throws IOException {
        Files.writeString(file, "public final class Sample { " + members + " }\n");
        return SourceRulesTest.rulesBrokenBy(file);
    }
}
