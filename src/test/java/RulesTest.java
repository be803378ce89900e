import java.io.IOException;
import java.lang.reflect.Field;
import java.lang.reflect.Method;
import java.lang.reflect.Modifier;
import java.nio.file.Files;
import java.nio.file.Path;
import java.util.ArrayList;
import java.util.Arrays;
import java.util.List;
import java.util.Set;
import java.util.TreeSet;
import java.util.regex.Matcher;
import java.util.regex.Pattern;

/** The face of the document, and those rules of LANGUAGE.md that can be seen without running anything. */
public final class RulesTest {
    private static final String FACE = "int row 2;int lay 3;int at 2;int tear 1;int copy 5;int mean 1;int text 2;int put 3;"
        + "int fault 1;int land 1;int house 2;int mark 2;int law 1;int lend 3;int back 3;int melt 2;int born 1;int gone 1;"
        + "int night 0;int undo 0;int keep 1;int on 1;int hands 1;int sack 1;int was 2;int off 0;int liar 0;int best 0;"
        + "int span 2;int ways 2;int odds 3;int sure 2;int lost 3;int tax 2;int gains 1;int look 0;int fine 1;int leads 2;"
        + "int led 2;int lead 3;int most 2;int next 1;int years 2;int asked 0;long upper 0;long lower 0;int count 1;"
        + "int finding 0;int findings 1;long digest 0";
    private static final String[] NOT_ALLOWED = {"\\bthrow\\b", "\\bthrows\\b", "\\btry\\b", "\\bcatch\\b",
        "\\bsynchronized\\b", "\\bassert\\b", "->", "::", "@", "Exact\\b", "\\bhashCode\\b", "\\btoString\\b", "\\bequals\\b",
        "\\bstatic\\s*\\{", "\\bSystem\\.(?!arraycopy)", "\\bThread\\b", "\\bRandom\\b", "\\bprotected\\b", "\\bpackage\\b"};
    private static int wrong = 0;

    public static void main(String[] args) throws IOException {
        face();
        constants();
        shapes();
        source(Files.readString(Path.of("src/main/java/SpoonCensus.java")));
        System.out.println(wrong == 0 ? "the rules are kept" : wrong + " rules are broken");
        if (wrong != 0) {
            System.exit(1);
        }
    }

    private static void must(boolean holds, String what) {
        if (!holds) {
            wrong++;
            System.out.println(what);
        }
    }

    private static void face() {
        Class<?> type = SpoonCensus.class;
        must(Modifier.isPublic(type.getModifiers()) && Modifier.isFinal(type.getModifiers()), "it is public and final");
        must(type.getDeclaredConstructors().length == 1 && type.getConstructors().length == 1, "one public constructor");
        Set<String> want = new TreeSet<>(Arrays.asList(FACE.split(";")));
        Set<String> got = new TreeSet<>();
        Set<String> names = new TreeSet<>();
        for (Method m : type.getDeclaredMethods()) {
            if (!Modifier.isPrivate(m.getModifiers())) {
                must(Modifier.isPublic(m.getModifiers()) && !Modifier.isStatic(m.getModifiers()), m + " is no part of the face");
                got.add(m.getReturnType() + " " + m.getName() + " " + m.getParameterCount());
                names.add(m.getName());
                must(Arrays.stream(m.getParameterTypes()).allMatch(p -> p == int.class), m + " takes ints");
            }
        }
        must(want.equals(got), "the face is " + got + ", due is " + want);
        for (Class<?> c : classes()) {
            for (Method m : c.getDeclaredMethods()) {
                boolean isFace = c == type && Modifier.isPublic(m.getModifiers());
                must(isFace || !names.contains(m.getName()), m + " bears the name of a public one");
                must(m.getParameterCount() <= 7, m + " takes more than seven");
            }
        }
    }

    private static void constants() {
        must(SpoonCensus.BAD == -1 && SpoonCensus.FULL == -2 && SpoonCensus.FINDING == -3 && SpoonCensus.STATE == -4
                && SpoonCensus.SPENT == -6 && SpoonCensus.NONE == -9, "the constants");
        Set<String> names = new TreeSet<>();
        for (Field f : SpoonCensus.class.getDeclaredFields()) {
            if (!Modifier.isPrivate(f.getModifiers())) {
                names.add(Modifier.toString(f.getModifiers()) + " " + f.getType() + " " + f.getName());
            }
        }
        Set<String> want = new TreeSet<>();
        for (String name : "BAD FULL FINDING STATE SPENT NONE".split(" ")) {
            want.add("public static final int " + name);
        }
        must(names.equals(want), "fields that can be seen: " + names);
    }

    private static List<Class<?>> classes() {
        List<Class<?>> all = new ArrayList<>(Arrays.asList(SpoonCensus.class.getDeclaredClasses()));
        all.add(SpoonCensus.class);
        return all;
    }

    private static void shapes() {
        must(classes().size() <= 12, classes().size() + " classes");
        for (Class<?> c : classes()) {
            int fields = 0;
            for (Field f : c.getDeclaredFields()) {
                boolean isStatic = Modifier.isStatic(f.getModifiers());
                must(!isStatic || Modifier.isFinal(f.getModifiers()), f + " is static, not final");
                fields += isStatic ? 0 : 1;
            }
            must(fields <= 20, c + " has " + fields + " fields");
            must(c == SpoonCensus.class || Modifier.isStatic(c.getModifiers()), c + " is not static");
            must(c.getDeclaredClasses().length == 0 || c == SpoonCensus.class, c + " has classes inside");
        }
    }

    private static void source(String text) {
        String code = text.replaceAll("(?s)/\\*.*?\\*/", "").replaceAll("//[^\\n]*", "");
        for (String word : NOT_ALLOWED) {
            Matcher m = Pattern.compile(word).matcher(code);
            must(!m.find(), "the source has " + word);
        }
        Matcher imports = Pattern.compile("import ([^;]+);").matcher(code);
        while (imports.find()) {
            must(imports.group(1).equals("java.util.Arrays"), "import of " + imports.group(1));
        }
        for (int i = 0; i < text.length(); i++) {
            must(text.charAt(i) < 127, "a sign that is not plain, at " + i);
        }
        lengths(text.split("\n"));
    }

    private static void lengths(String[] lines) {
        Pattern opening = Pattern.compile("( {4}| {8})(?!if |for |while |switch |do |else )\\S.*\\) \\{");
        for (int i = 0; i < lines.length; i++) {
            must(lines[i].length() <= 130, "line " + (i + 1) + " is long");
            Matcher m = opening.matcher(lines[i]);
            if (m.matches()) {
                int end = i;
                while (end < lines.length && !lines[end].equals(m.group(1) + "}")) {
                    end++;
                }
                must(end - i < 60, "the method at line " + (i + 1) + " has " + (end - i + 1) + " lines");
            }
        }
    }
}
