import java.lang.reflect.Method;
import java.nio.charset.StandardCharsets;
import java.nio.file.Files;
import java.nio.file.Path;
import java.util.ArrayList;
import java.util.List;
import java.util.Set;
import java.util.TreeSet;
import java.util.regex.Matcher;
import java.util.regex.Pattern;

/** The examples of README.md answer as they say there, and none of the face's calls is left out. */
final class ReadmeTest {
    private static final Pattern EXAMPLE = Pattern.compile("    x\\.(\\w+)\\((.*)\\); +// (-?\\d+)(:.*)?");
    private static final Pattern NUMBER = Pattern.compile("'.'|-?\\d+");

    private ReadmeTest() {
    }

    static void run(String file) throws Exception {
        PebbleInShoe x = null;
        Set<String> shown = new TreeSet<>();
        for (String line : Files.readAllLines(Path.of(file), StandardCharsets.UTF_8)) {
            if (line.equals("    PebbleInShoe x = new PebbleInShoe();")) {
                x = new PebbleInShoe();
            } else if (line.startsWith("    x.")) {
                Matcher m = EXAMPLE.matcher(line);
                Check.holds("README: an example with its answer: " + line, m.matches() && x != null);
                if (m.matches() && x != null) {
                    shown.add(m.group(1));
                    Check.due("README: " + line.trim(), answer(x, m.group(1), numbers(m.group(2))), Long.parseLong(m.group(3)));
                }
            }
        }
        for (Method m : PebbleInShoe.class.getMethods()) {
            if (m.getDeclaringClass() == PebbleInShoe.class) {
                Check.holds("README shows " + m.getName(), shown.contains(m.getName()));
            }
        }
    }

    private static List<Integer> numbers(String inBrackets) {
        List<Integer> found = new ArrayList<>();
        Matcher m = NUMBER.matcher(inBrackets);
        while (m.find()) {
            String s = m.group();
            found.add(s.charAt(0) == '\'' ? s.charAt(1) : Integer.parseInt(s));
        }
        return found;
    }

    private static long answer(PebbleInShoe x, String name, List<Integer> numbers) throws Exception {
        for (Method m : PebbleInShoe.class.getMethods()) {
            if (m.getName().equals(name) && m.getParameterCount() == numbers.size()) {
                return ((Number) m.invoke(x, numbers.toArray())).longValue();
            }
        }
        Check.holds("README: a call of the face: " + name + " by " + numbers, false);
        return PebbleInShoe.NO;
    }
}
