import java.lang.reflect.Constructor;
import java.lang.reflect.Field;
import java.lang.reflect.Method;
import java.lang.reflect.Modifier;
import java.nio.charset.StandardCharsets;
import java.nio.file.Files;
import java.nio.file.Path;
import java.util.ArrayList;
import java.util.HashSet;
import java.util.List;
import java.util.Set;
import java.util.TreeSet;
import java.util.regex.Matcher;
import java.util.regex.Pattern;

/** The face of the class, and what of LANGUAGE.md can be seen in its text. */
final class LanguageTest {
    private static final String FACE = "int count 1, int judge 1, int shoe 3, int bench 2, int feed 6, int text 0, "
        + "int force 1, int asks 3, int pebble 2, int put 3, int told 2, int walk 3, int hear 4, int fewest 2, "
        + "int sand 2, int unlike 3, int hardest 2, int thick 3, int order 3, int counsel 3, int reversed 2, "
        + "int kinds 4, int soled 2, int sizes 4, int whose 1, int laws 2, int film 3, int drawn 5, long odds 6, "
        + "int image 0, int back 0, int sheet 3, int cell 3, int copy 5, int pebblesBy 4, long taken 2";
    private static final String[] BANNED = {"throw", "throws", "try", "catch", "synchronized", "assert", "equals",
        "hashCode", "toString", "System.exit", "Thread", "Random", "->", "::", "protected", "native", "volatile"};

    private LanguageTest() {
    }

    static void run(String file) throws Exception {
        face();
        String text = Files.readString(Path.of(file), StandardCharsets.ISO_8859_1);
        String code = withoutComments(text);
        for (String word : BANNED) {
            boolean isWord = Character.isLetter(word.charAt(0));
            Matcher m = Pattern.compile(isWord ? "\\b" + Pattern.quote(word) + "\\b" : Pattern.quote(word)).matcher(code);
            Check.holds("no " + word, !m.find());
        }
        Matcher imports = Pattern.compile("(?m)^import (.*);").matcher(code);
        while (imports.find()) {
            Check.holds("import " + imports.group(1), imports.group(1).equals("java.util.Arrays"));
        }
        Check.holds("no package", !code.contains("\npackage "));
        for (int i = 0; i < text.length(); i++) {
            if (text.charAt(i) > 126) {
                Check.holds("byte " + i + " is plain", false);
            }
        }
        methodsAreShort(code);
        callsAreFewDeep(code);
        libraryIsListed(code);
        madeByConstructorsAlone(code);
        fieldsAreOfListedTypes();
    }

    private static void face() throws Exception {
        Set<String> want = new TreeSet<>(List.of(FACE.split(", ")));
        Set<String> got = new TreeSet<>();
        Set<String> hidden = new HashSet<>();
        for (Method m : PebbleInShoe.class.getDeclaredMethods()) {
            if (Modifier.isPublic(m.getModifiers())) {
                got.add(m.getReturnType() + " " + m.getName() + " " + m.getParameterCount());
                Check.holds(m + " isn't static", !Modifier.isStatic(m.getModifiers()));
            } else {
                Check.holds(m + " is private", Modifier.isPrivate(m.getModifiers()) || m.isSynthetic());
                hidden.add(m.getName());
            }
        }
        Check.holds("the methods " + got, want.equals(got));
        for (String line : want) {
            Check.holds("no private method is named " + line, !hidden.contains(line.split(" ")[1]));
        }
        int constants = 0;
        for (Field f : PebbleInShoe.class.getDeclaredFields()) {
            if (Modifier.isPublic(f.getModifiers())) {
                constants++;
                Check.holds(f + " is a constant", Modifier.isStatic(f.getModifiers()) && Modifier.isFinal(f.getModifiers()));
            } else {
                Check.holds(f + " is private", Modifier.isPrivate(f.getModifiers()));
            }
        }
        Check.due("constants", constants, 5);
        Check.due("NONE", PebbleInShoe.NONE, -1);
        Check.due("BAD", PebbleInShoe.BAD, -2);
        Check.due("STATE", PebbleInShoe.STATE, -3);
        Check.due("FULL", PebbleInShoe.FULL, -4);
        Constructor<?>[] made = PebbleInShoe.class.getDeclaredConstructors();
        Check.due("constructors", made.length, 1);
        Check.due("its parameters", made[0].getParameterCount(), 0);
        Check.holds("final", Modifier.isFinal(PebbleInShoe.class.getModifiers()));
        Class<?>[] inside = PebbleInShoe.class.getDeclaredClasses();
        Check.holds("some twelve classes", inside.length < 12);
        for (Class<?> c : inside) {
            Check.holds(c + " is static, not public", Modifier.isStatic(c.getModifiers()) && !Modifier.isPublic(c.getModifiers()));
            int fields = 0;
            for (Field f : c.getDeclaredFields()) {
                fields += Modifier.isStatic(f.getModifiers()) ? 0 : 1;
            }
            Check.holds("some twenty fields", fields <= 20);
        }
    }

    /** Of the library nothing but these; of Texts, what a call on one could be named. */
    private static void libraryIsListed(String code) {
        Set<String> listed = Set.of("System.arraycopy", "Arrays.fill", "Integer.bitCount", "Math.max", "Math.min");
        Matcher calls = Pattern.compile("\\b(System|Arrays|Integer|Long|Math|String|Character|Objects)\\s*\\.\\s*\\w+")
            .matcher(code);
        while (calls.find()) {
            Check.holds("listed: " + calls.group(), listed.contains(calls.group()));
        }
        Check.holds("no text is joined by +", !code.contains("\" +") && !code.contains("+ \""));
        Check.holds("no Exact", !code.contains("Exact("));
        Check.holds("no float, no double", !Pattern.compile("\\b(float|double)\\b").matcher(code).find());
        Check.holds("no loop without a bound", !code.contains("while (true)") && !code.contains("for (;;"));
    }

    /** What a run makes is counted: here it is as much as its objects' fields, whatever is called. */
    private static void madeByConstructorsAlone(String code) {
        for (String line : code.split("\n")) {
            if (Pattern.compile("\\bnew\\b").matcher(line).find()) {
                Check.holds("a field: " + line.trim(), line.matches(" +(private )?final \\S+ \\w+ = new .*;"));
            }
        }
        Check.holds("no row is cloned", !code.contains(".clone(") && !code.contains("copyOf"));
    }

    private static void fieldsAreOfListedTypes() {
        List<Class<?>> all = new ArrayList<>(List.of(PebbleInShoe.class.getDeclaredClasses()));
        all.add(PebbleInShoe.class);
        Set<Class<?>> listed = new HashSet<>(all);
        listed.addAll(List.of(int.class, long.class, boolean.class, char.class, String.class));
        for (Class<?> c : all) {
            for (Field f : c.getDeclaredFields()) {
                boolean isStatic = Modifier.isStatic(f.getModifiers());
                Class<?> type = f.getType();
                boolean isRow = type == int[].class || type == int[][].class;
                Check.holds(f + " is of a listed type", listed.contains(type) || isRow && !isStatic);
                Check.holds(f + " is final, if static", !isStatic || Modifier.isFinal(f.getModifiers()));
                Check.holds(f + " is a constant, if static", !isStatic || type.isPrimitive() || type == String.class);
            }
            Check.holds(c + " has no class inside", c == PebbleInShoe.class || c.getDeclaredClasses().length == 0);
        }
    }

    private static String withoutComments(String text) {
        return text.replaceAll("(?s)/\\*.*?\\*/", "").replaceAll("//[^\n]*", "");
    }

    /** Name, parameters and body of each method and constructor. */
    private static List<String[]> methods(String code) {
        List<String[]> found = new ArrayList<>();
        Matcher m = Pattern.compile("(?m)^( {4}| {8})(?:[a-z]+ )*(?:[A-Za-z\\[\\]]+ )?([A-Za-z]+)\\(([^()]*)\\) \\{\n").matcher(code);
        while (m.find()) {
            int end = code.indexOf("\n" + m.group(1) + "}\n", m.end() - 1);
            found.add(new String[] {m.group(2), m.group(3), code.substring(m.end(), Math.max(m.end(), end))});
        }
        return found;
    }

    private static void methodsAreShort(String code) {
        List<String[]> all = methods(code);
        Check.holds("methods are found: " + all.size(), all.size() > 80);
        for (String[] m : all) {
            Check.holds(m[0] + " is short", m[2].split("\n").length <= 60);
            Check.holds(m[0] + " takes at most seven", m[1].isEmpty() || m[1].split(",").length <= 7);
        }
    }

    /** By names alone, the recursion of the Reader left out: one below the rule's eight, the library's calls go on. */
    private static void callsAreFewDeep(String code) {
        List<String[]> all = methods(code);
        for (String[] m : all) {
            Check.holds(m[0] + " calls few deep", depth(m[0], all, 0) <= 7);
        }
    }

    private static int depth(String name, List<String[]> all, int above) {
        if (above > 12) {
            return above;
        }
        int most = above;
        for (String[] m : all) {
            if (m[0].equals(name)) {
                most = Math.max(most, above + 1);
                Matcher calls = Pattern.compile("\\b([a-zA-Z]+)\\(").matcher(m[2]);
                while (calls.find()) {
                    String called = calls.group(1);
                    boolean recursion = called.matches("read(Or|And|Not|Sum|Term|One)");
                    if (!recursion) {
                        most = Math.max(most, depth(called, all, above + 1));
                    }
                }
            }
        }
        return most;
    }
}
