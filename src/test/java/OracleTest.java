import java.util.Random;

/** Runs of drawn calls, by the program and by the Oracle: all answers are alike. */
final class OracleTest {
    private static final int RUNS = 400;
    private static final int CALLS = 512;

    private final Random random;
    private final PebbleInShoe x = new PebbleInShoe();
    private final Oracle y = new Oracle();
    private final StringBuilder calls = new StringBuilder();
    private String pending = "";
    private boolean alike = true;

    private OracleTest(long seed) {
        random = new Random(seed);
    }

    static void run() {
        for (int seed = 0; seed < RUNS; seed++) {
            OracleTest test = new OracleTest(seed);
            for (int i = 0; i < CALLS && test.alike; i++) {
                test.call(i);
            }
            Check.holds("run " + seed + " is as the Oracle's", test.alike);
            if (!test.alike) {
                System.out.println(test.calls);
            }
        }
    }

    private void like(String call, long got, long want) {
        calls.append(call).append(" = ").append(got).append('\n');
        if (got != want) {
            calls.append("  the Oracle: ").append(want).append('\n');
            alike = false;
        }
    }

    /** Mostly 0 .. most, now and then just outside or far. */
    private int upTo(int most) {
        int r = random.nextInt(40);
        if (r == 0) {
            return random.nextBoolean() ? -1 : most + 1;
        }
        if (r == 1) {
            return random.nextInt(8) == 0 ? random.nextInt() : random.nextBoolean() ? 0 : most;
        }
        return random.nextInt(most + 1);
    }

    private int judge() {
        int n = y.count(1);
        return upTo(Math.max(0, n - 1));
    }

    private int pebble() {
        int n = y.count(0);
        return upTo(Math.max(0, n - 1));
    }

    private int miles() {
        return random.nextInt(3) == 0 ? upTo(60) : upTo(12);
    }

    private int flags() {
        return random.nextInt(20) == 0 ? upTo(30) : 10 * random.nextInt(2) + random.nextInt(2);
    }

    private int moreMiles() {
        return random.nextInt(20) == 0 ? upTo(999) : 100 * random.nextInt(10) + random.nextInt(61);
    }

    private void call(int i) {
        if (i < 12 && random.nextInt(3) > 0) {
            early();
            return;
        }
        switch (random.nextInt(6)) {
            case 0 -> state();
            case 1 -> rows();
            case 2 -> law();
            case 3, 4 -> found();
            default -> circuits();
        }
    }

    private void early() {
        if (random.nextBoolean()) {
            int v = upTo(20);
            like("judge(" + v + ")", x.judge(v), y.judge(v));
        } else {
            newPebble();
        }
    }

    private void newPebble() {
        int a = upTo(59);
        int b = random.nextInt(4) == 0 ? upTo(9999) : 100 * random.nextInt(100) + random.nextInt(30);
        like("pebble(" + a + ", " + b + ")", x.pebble(a, b), y.pebble(a, b));
    }

    private void state() {
        int j = judge();
        int p = pebble();
        int what = upTo(4);
        int v = random.nextInt(3) == 0 ? upTo(999) : upTo(25);
        String a = "(" + j + ", " + what + ", " + v + ")";
        switch (random.nextInt(12)) {
            case 0 -> like("count(" + what + ")", x.count(what), y.count(what));
            case 1 -> early();
            case 2 -> like("shoe" + a, x.shoe(j, what % 2, v), y.shoe(j, what % 2, v));
            case 3 -> like("shoe" + a, x.shoe(j, what, v), y.shoe(j, what, v));
            case 4 -> like("bench" + a, x.bench(j, what), y.bench(j, what));
            case 5 -> like("asks" + what + " " + j + " " + p, x.asks(what, j, p), y.asks(what, j, p));
            case 6 -> like("put " + p + a, x.put(p, what % 2, v % 101), y.put(p, what % 2, v % 101));
            case 7 -> like("told " + p + a, x.told(p, what), y.told(p, what));
            case 8 -> {
                int n = miles();
                like("walk " + j + " " + p + " " + n, x.walk(j, p, n), y.walk(j, p, n));
            }
            case 9 -> {
                if (random.nextInt(3) == 0) {
                    like("image()", x.image(), y.image());
                }
            }
            case 10 -> {
                if (random.nextInt(3) == 0) {
                    like("back()", x.back(), y.back());
                }
            }
            default -> {
                int place = upTo(9);
                int kind = upTo(6);
                like("taken(" + place + ", " + kind + ")", x.taken(place, kind), y.taken(place, kind));
            }
        }
    }

    private void rows() {
        int s = upTo(3);
        int i = upTo(20);
        int n = upTo(12);
        switch (random.nextInt(6)) {
            case 0 -> {
                int sort = random.nextInt(12) == 0 ? upTo(3) - 1 : random.nextInt(3);
                int size = random.nextBoolean() ? upTo(40) : 3 * random.nextInt(7);
                like("sheet(" + s + ", " + sort + ", " + size + ")", x.sheet(s, sort, size), y.sheet(s, sort, size));
            }
            case 1 -> {
                int v = random.nextInt(4) == 0 ? random.nextInt() : random.nextInt(300);
                like("cell(" + s + ", " + i + ", " + v + ")", x.cell(s, i, v), y.cell(s, i, v));
            }
            case 2 -> {
                int other = upTo(3);
                int j = upTo(20);
                like("copy(" + s + ", " + i + ", " + other + ", " + j + ", " + n + ")",
                    x.copy(s, i, other, j, n), y.copy(s, i, other, j, n));
            }
            case 3 -> {
                int sort = upTo(2);
                int m = upTo(6);
                if (random.nextInt(4) == 0) {
                    like("pebblesBy(" + s + ", " + sort + ", " + i + ", " + m + ")",
                        x.pebblesBy(s, sort, i, m), y.pebblesBy(s, sort, i, m));
                }
            }
            case 4 -> {
                int j = judge();
                int m = miles();
                like("film(" + s + ", " + j + ", " + m + ")", x.film(s, j, m), y.film(s, j, m));
            }
            default -> tell(s);
        }
    }

    /** A SHEET of CASES that are mostly as a JUDGE finds them. */
    private void tell(int s) {
        int cases = random.nextInt(4);
        like("sheet", x.sheet(s, 2, 3 * cases), y.sheet(s, 2, 3 * cases));
        for (int c = 0; c < cases; c++) {
            int[] v = {pebble(), miles(), random.nextInt(2)};
            for (int k = 0; k < 3; k++) {
                like("cell(" + s + ", " + (3 * c + k) + ", " + v[k] + ")",
                    x.cell(s, 3 * c + k, v[k]), y.cell(s, 3 * c + k, v[k]));
            }
        }
    }

    private void found() {
        int j = judge();
        int p = pebble();
        int n = miles();
        int what = upTo(3);
        int f = flags();
        String a = "(" + j + ", " + p + ", " + n + ", " + what + "; " + f + ")";
        switch (random.nextInt(10)) {
            case 0 -> like("hear" + a, x.hear(j, p, n, what), y.hear(j, p, n, what));
            case 1 -> like("fewest" + a, x.fewest(j, p), y.fewest(j, p));
            case 2 -> like("sand" + a, x.sand(j, p), y.sand(j, p));
            case 3 -> {
                int b = judge();
                like("unlike " + b + a, x.unlike(j, b, p), y.unlike(j, b, p));
            }
            case 4 -> like("hardest" + a, x.hardest(n, what % 2), y.hardest(n, what % 2));
            case 5 -> like("thick" + a, x.thick(j, p, n), y.thick(j, p, n));
            case 6 -> {
                if (random.nextInt(3) == 0) {
                    like("order" + a, x.order(j, n, f), y.order(j, n, f));
                }
            }
            case 7 -> {
                if (random.nextInt(3) == 0) {
                    like("counsel" + a, x.counsel(j, n, what % 3), y.counsel(j, n, what % 3));
                }
            }
            case 8 -> {
                int seed = upTo(99999);
                int m = moreMiles();
                like("drawn " + seed + " " + m + a, x.drawn(seed, j, p, m, what), y.drawn(seed, j, p, m, what));
            }
            default -> {
                int seed = upTo(99999);
                int seeds = upTo(40);
                int m = moreMiles();
                like("odds " + seed + " " + seeds + " " + m + a,
                    x.odds(seed, seeds, j, p, m, what % 2), y.odds(seed, seeds, j, p, m, what % 2));
            }
        }
    }

    private void circuits() {
        int s = upTo(3);
        int j = judge();
        int p = pebble();
        int f = flags();
        String a = "(" + s + ", " + j + ", " + p + ", " + f + ")";
        switch (random.nextInt(6)) {
            case 0 -> like("reversed" + a, x.reversed(s, j), y.reversed(s, j));
            case 1 -> like("kinds" + a, x.kinds(s, j, p, f % 10), y.kinds(s, j, p, f % 10));
            case 2 -> like("soled" + a, x.soled(s, j), y.soled(s, j, true));
            case 3 -> like("sizes" + a, x.sizes(s, j, p, f), y.sizes(s, j, p, f));
            case 4 -> like("whose" + a, x.whose(s), y.whose(s));
            default -> like("laws" + a, x.laws(s, j), y.laws(s, j));
        }
    }

    // ---- texts

    private void law() {
        switch (random.nextInt(6)) {
            case 0 -> {
                int t = upTo(Math.max(0, y.count(2) - 1));
                like("force(" + t + ")", x.force(t), y.force(t));
            }
            case 1 -> {
                if (pending.isEmpty()) {
                    pending = drawnText();
                } else {
                    like("text()", x.text(), y.text());
                    pending = "";
                }
            }
            default -> {
                if (pending.isEmpty()) {
                    pending = drawnText();
                }
                feedAll();
            }
        }
    }

    private void feedAll() {
        for (int i = 0; i < pending.length(); i += 5) {
            int[] b = new int[5];
            int n = Math.min(5, pending.length() - i);
            for (int k = 0; k < n; k++) {
                b[k] = pending.charAt(i + k);
            }
            if (random.nextInt(300) == 0) {
                b[random.nextInt(5)] = random.nextInt(400) - 80;
            }
            like("feed(" + n + ", '" + pending.substring(i, i + n) + "')", x.feed(n, b[0], b[1], b[2], b[3], b[4]),
                y.feed(n, b[0], b[1], b[2], b[3], b[4]));
        }
        like("text()", x.text(), y.text());
        pending = "";
    }

    private String drawnText() {
        String text = "feels " + pick("size - round", "size", "40", drawn(2)) + ";wears "
            + pick("1", "2", "round * miles", drawn(1)) + ";bars " + pick("30", "90", "400", drawn(2)) + ";";
        if (random.nextInt(4) == 0) {
            int at = random.nextInt(text.length() + 1);
            String[] odd = {"(", ")", "not ", "-", ";", " ", "\n", "$", "12345", "sizes", "feels", "or", "<", "\u00e9"};
            int till = random.nextBoolean() ? at : Math.min(text.length(), at + 1 + random.nextInt(3));
            text = text.substring(0, at) + (random.nextInt(3) == 0 ? "" : pick(odd)) + text.substring(till);
        }
        return text;
    }

    private String pick(String... of) {
        return of[random.nextInt(of.length)];
    }

    private String drawn(int depth) {
        if (depth == 0) {
            return pick("size", "round", "soles", "miles", "more", "judge", String.valueOf(random.nextInt(100)),
                String.valueOf(random.nextInt(10000)), "3", "1");
        }
        return switch (random.nextInt(8)) {
            case 0 -> "(" + drawn(depth) + ")";
            case 1 -> "not " + drawn(depth - 1);
            case 2 -> "-" + drawn(depth - 1);
            default -> drawn(depth - 1) + pick(" + ", "-", "*", "<", "=", " or ", " and ", "-") + drawn(depth - 1);
        };
    }
}
