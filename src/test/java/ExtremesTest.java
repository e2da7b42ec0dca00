import java.lang.reflect.InvocationTargetException;
import java.lang.reflect.Method;
import java.lang.reflect.Modifier;
import java.util.ArrayList;
import java.util.Comparator;
import java.util.List;
import java.util.Random;

/** Whatever is asked, by numbers at all edges and far beyond: no call throws. */
final class ExtremesTest {
    private static final int[] EDGES = {Integer.MIN_VALUE, -101, -1, 0, 0, 0, 1, 1, 2, 3, 4, 5, 6, 7, 9, 10, 11, 12, 20,
        21, 39, 40, 41, 59, 60, 61, 99, 100, 255, 256, 960, 961, 999, 1000, 9999, 10000, 99999, 100000,
        Integer.MAX_VALUE - 1, Integer.MAX_VALUE};

    private ExtremesTest() {
    }

    static void run() throws Exception {
        List<Method> face = new ArrayList<>();
        for (Method m : PebbleInShoe.class.getDeclaredMethods()) {
            if (Modifier.isPublic(m.getModifiers())) {
                face.add(m);
            }
        }
        face.sort(Comparator.comparing(Method::getName));
        Random random = new Random(7);
        for (int round = 0; round < 200; round++) {
            PebbleInShoe x = new PebbleInShoe();
            prepare(x, round);
            int failed = Check.failed;
            for (int i = 0; i < 500; i++) {
                call(x, face.get(random.nextInt(face.size())), random);
            }
            Check.due("calls that threw", Check.failed - failed, 0);
        }
    }

    private static void prepare(PebbleInShoe x, int round) {
        for (int j = 0; j < round % 5; j++) {
            x.judge(5 * j);
        }
        for (int p = 0; p < round % 7; p++) {
            x.pebble(11 * p % 60, 9900 - 77 * p);
        }
        Tape.row(x, 1, round % 3, 0, 60, 1, 1, 60, 0);
        if (round % 2 == 0) {
            Tape.text(x, "feels size*size*size*9999;wears -miles;bars 9999*9999*soles;");
            x.force(1);
        }
    }

    private static void call(PebbleInShoe x, Method m, Random random) throws IllegalAccessException {
        Object[] args = new Object[m.getParameterCount()];
        StringBuilder told = new StringBuilder(m.getName());
        for (int i = 0; i < args.length; i++) {
            args[i] = EDGES[random.nextInt(random.nextInt(4) == 0 ? EDGES.length : 14)];
            told.append(' ').append(args[i]);
        }
        try {
            m.invoke(x, args);
        } catch (InvocationTargetException e) {
            Check.holds(told + " threw " + e.getCause(), false);
        }
    }
}
