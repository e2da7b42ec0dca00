import java.util.ArrayList;
import java.util.List;

/**
 * The document once more, written otherwise than the program: TEXTS are trees, KINDS are classes, what is thought
 * is done to a copy, all orders are tried. Slow, and with the whole library.
 */
final class Oracle {
    /** A value by SIZE, ROUND, SOLES, MILES, MORE, JUDGE. */
    interface Expression {
        int of(int[] names);
    }

    static final class Fault extends Exception {
        private static final long serialVersionUID = 1L;
        final int place;

        Fault(int place) {
            this.place = place;
        }
    }

    record Token(String word, int place) {
    }

    // ---- texts

    static final class Parser {
        private static final List<String> KEYS = List.of("feels", "wears", "bars", "or", "and", "not");
        private static final List<String> NAMES = List.of("size", "round", "soles", "miles", "more", "judge");
        private final List<Token> tokens = new ArrayList<>();
        private int at = 0;
        private int open = 0;

        Parser(String s) {
            int i = 0;
            while (i < s.length()) {
                int from = i;
                char c = s.charAt(i++);
                if (c == ' ' || c == '\n') {
                    continue;
                }
                String kind = c >= 'a' && c <= 'z' ? "[a-z]" : c >= '0' && c <= '9' ? "[0-9]" : "";
                while (!kind.isEmpty() && i < s.length() && s.substring(i, i + 1).matches(kind)) {
                    i++;
                }
                tokens.add(new Token(s.substring(from, i), from));
            }
            tokens.add(new Token("", s.length()));
        }

        private String word() {
            return tokens.get(at).word();
        }

        private Fault fault() {
            return new Fault(tokens.get(at).place());
        }

        private boolean skip(String word) {
            if (word().equals(word)) {
                at++;
                return true;
            }
            return false;
        }

        private void need(String word) throws Fault {
            if (!skip(word)) {
                throw fault();
            }
        }

        private void opens() throws Fault {
            if (open == 5) {
                at--;
                throw fault();
            }
            open++;
        }

        Expression[] text() throws Fault {
            Expression[] parts = new Expression[3];
            for (int i = 0; i < 3; i++) {
                need(KEYS.get(i));
                parts[i] = or();
                need(";");
            }
            need("");
            return parts;
        }

        private Expression or() throws Fault {
            Expression a = and();
            while (skip("or")) {
                Expression l = a;
                Expression r = and();
                a = v -> l.of(v) != 0 | r.of(v) != 0 ? 1 : 0;
            }
            return a;
        }

        private Expression and() throws Fault {
            Expression a = not();
            while (skip("and")) {
                Expression l = a;
                Expression r = not();
                a = v -> l.of(v) != 0 & r.of(v) != 0 ? 1 : 0;
            }
            return a;
        }

        private Expression not() throws Fault {
            if (skip("not")) {
                opens();
                Expression a = not();
                open--;
                return v -> a.of(v) != 0 ? 0 : 1;
            }
            Expression l = sum();
            if (skip("<")) {
                Expression r = sum();
                return v -> l.of(v) < r.of(v) ? 1 : 0;
            }
            if (skip("=")) {
                Expression r = sum();
                return v -> l.of(v) == r.of(v) ? 1 : 0;
            }
            return l;
        }

        private Expression sum() throws Fault {
            Expression a = term();
            while (true) {
                Expression l = a;
                if (skip("+")) {
                    Expression r = term();
                    a = v -> l.of(v) + r.of(v);
                } else if (skip("-")) {
                    Expression r = term();
                    a = v -> l.of(v) - r.of(v);
                } else {
                    return a;
                }
            }
        }

        private Expression term() throws Fault {
            Expression a = one();
            while (skip("*")) {
                Expression l = a;
                Expression r = one();
                a = v -> l.of(v) * r.of(v);
            }
            return a;
        }

        private Expression one() throws Fault {
            if (skip("-")) {
                opens();
                Expression a = one();
                open--;
                return v -> -a.of(v);
            }
            if (skip("(")) {
                opens();
                Expression a = or();
                need(")");
                open--;
                return a;
            }
            String w = word();
            int name = NAMES.indexOf(w);
            if (name >= 0) {
                at++;
                return v -> v[name];
            }
            if (w.matches("[0-9]{1,4}")) {
                at++;
                int number = Integer.parseInt(w);
                return v -> number;
            }
            throw fault();
        }
    }

    // ---- kinds

    static class Pebble implements Cloneable {
        int kind;
        int more;
        int size;
        int round;

        static Pebble of(int kind, int more, int size, int round) {
            Pebble p = switch (kind) {
                case 0 -> new Pebble();
                case 1 -> new Flint();
                case 2 -> new Shell();
                case 3 -> new Shard();
                case 4 -> new Pearl();
                default -> new Grit();
            };
            p.kind = kind;
            p.more = more;
            p.size = size;
            p.round = round;
            return p;
        }

        int hurts(int said, int soles) {
            return said - soles;
        }

        int wears(int said) {
            return said;
        }

        boolean isSand() {
            return size == 0;
        }

        Pebble copy() {
            return of(kind, more, size, round);
        }
    }

    static class Flint extends Pebble {
        @Override int hurts(int said, int soles) {
            return super.hurts(said, soles) + more;
        }
    }

    static class Shell extends Pebble {
        @Override int wears(int said) {
            return super.wears(said) * 2;
        }

        @Override boolean isSand() {
            return size <= more;
        }
    }

    static final class Shard extends Flint {
        @Override int hurts(int said, int soles) {
            return super.hurts(said, soles) * (soles < 5 ? 2 : 1);
        }

        @Override int wears(int said) {
            return super.wears(said) / 2;
        }
    }

    static final class Pearl extends Shell {
        @Override int hurts(int said, int soles) {
            return super.hurts(said, soles) / 2;
        }

        @Override int wears(int said) {
            return said <= 5 ? 0 : super.wears(said);
        }
    }

    static final class Grit extends Pebble {
        @Override int hurts(int said, int soles) {
            return said - (soles * more) / 4;
        }

        @Override boolean isSand() {
            return size < 5;
        }
    }

    record Judge(int soles, int miles, int pain) {
    }

    /** All that a CASE looks at. */
    static final class World {
        final List<Judge> judges = new ArrayList<>();
        final List<Pebble> pebbles = new ArrayList<>();
        int law = 0;

        World copy() {
            World w = new World();
            w.judges.addAll(judges);
            for (Pebble p : pebbles) {
                w.pebbles.add(p.copy());
            }
            w.law = law;
            return w;
        }

        boolean has(int j, int p) {
            return j >= 0 && j < judges.size() && p >= 0 && p < pebbles.size();
        }
    }

    private final List<Expression[]> texts = new ArrayList<>();
    private final StringBuilder tape = new StringBuilder();
    private World now = new World();
    private World image = null;
    private final Object[] sheets = new Object[4];

    Oracle() {
        tape.append("feels size-round;wears 1;bars 30;");
        text();
    }

    private int says(World w, int part, int j, int p) {
        Judge judge = w.judges.get(j);
        Pebble pebble = w.pebbles.get(p);
        int[] names = {pebble.size, pebble.round, judge.soles, judge.miles, pebble.more, j};
        int[] most = {99, 20, 9999};
        int v = texts.get(w.law)[part].of(names);
        return v < 0 ? 0 : v > most[part] ? most[part] : v;
    }

    private int mile(World w, int j, int p, int lot) {
        Judge judge = w.judges.get(j);
        Pebble pebble = w.pebbles.get(p);
        int felt = 0;
        int pain = judge.pain;
        if (!pebble.isSand()) {
            felt = Math.max(0, pebble.hurts(says(w, 0, j, p), judge.soles));
            int worn = Math.max(0, pebble.wears(says(w, 1, j, p))) + lot;
            pain = Math.min(99999, pain + felt);
            pebble.size = Math.max(0, pebble.size - worn);
        }
        int miles = judge.miles + 1;
        int soles = miles % 10 == 0 ? Math.min(20, judge.soles + 1) : judge.soles;
        w.judges.set(j, new Judge(soles, miles, pain));
        return felt;
    }

    private int go(World w, int j, int p, int n) {
        return n == 0 ? 0 : mile(w, j, p, 0) + go(w, j, p, n - 1);
    }

    private boolean guilty(World w, int j, int p, int n) {
        int felt = go(w, j, p, n);
        return felt >= says(w, 2, j, p);
    }

    private int goDrawn(World w, int seed, int j, int p, int moreMiles) {
        long lot = seed + 1;
        int felt = 0;
        for (int i = 0; i < moreMiles % 100; i++) {
            lot = Math.floorMod(lot * 48271, 2147483647L);
            felt += mile(w, j, p, (int) (lot % (moreMiles / 100 + 1)));
        }
        return felt;
    }

    // ---- the face

    int count(int what) {
        int[] counts = {now.pebbles.size(), now.judges.size(), texts.size(), now.law, tape.length()};
        return what < 0 || what > 4 ? -2 : counts[what];
    }

    int judge(int thick) {
        if (thick < 0 || thick > 20) {
            return -2;
        }
        if (now.judges.size() == 4) {
            return -4;
        }
        now.judges.add(new Judge(thick, 0, 0));
        return now.judges.size() - 1;
    }

    private boolean noJudge(int j) {
        return j < 0 || j >= now.judges.size();
    }

    private boolean noPebble(int p) {
        return p < 0 || p >= now.pebbles.size();
    }

    int shoe(int j, int what, int v) {
        if (noJudge(j)) {
            return -5;
        }
        if (what < 0 || what > 1 || v < 0 || v > (what == 0 ? 20 : 999)) {
            return -7;
        }
        Judge was = now.judges.get(j);
        now.judges.set(j, what == 0 ? new Judge(v, was.miles, was.pain) : new Judge(was.soles, v, was.pain));
        return what == 0 ? was.soles : was.miles;
    }

    int bench(int j, int what) {
        if (noJudge(j)) {
            return -5;
        }
        Judge judge = now.judges.get(j);
        return what == 0 ? judge.soles : what == 1 ? judge.miles : what == 2 ? judge.pain : -7;
    }

    int feed(int n, int... bytes) {
        if (n < 1 || n > 5) {
            return -2;
        }
        for (int b : bytes) {
            if (b < 0 || b > 255) {
                return -2;
            }
        }
        if (tape.length() + n > 160) {
            return -4;
        }
        for (int i = 0; i < n; i++) {
            tape.append((char) bytes[i]);
        }
        return tape.length();
    }

    int text() {
        if (texts.size() == 6) {
            return -4;
        }
        String s = tape.toString();
        tape.setLength(0);
        try {
            texts.add(new Parser(s).text());
            return texts.size() - 1;
        } catch (Fault f) {
            return -100 - f.place;
        }
    }

    int force(int t) {
        if (t < 0 || t >= texts.size()) {
            return -2;
        }
        int was = now.law;
        now.law = t;
        return was;
    }

    int asks(int part, int j, int p) {
        return part < 0 || part > 2 || !now.has(j, p) ? -2 : says(now, part, j, p);
    }

    int pebble(int kindMore, int sizeRound) {
        if (kindMore < 0 || kindMore > 59 || sizeRound < 0 || sizeRound > 9999) {
            return -2;
        }
        if (now.pebbles.size() == 6) {
            return -4;
        }
        now.pebbles.add(Pebble.of(kindMore / 10, kindMore % 10, sizeRound / 100, sizeRound % 100));
        return now.pebbles.size() - 1;
    }

    int put(int p, int what, int v) {
        if (noPebble(p)) {
            return -5;
        }
        if (what < 0 || what > 1 || v < 0 || v > 99) {
            return -7;
        }
        Pebble pebble = now.pebbles.get(p);
        int was = what == 0 ? pebble.size : pebble.round;
        if (what == 0) {
            pebble.size = v;
        } else {
            pebble.round = v;
        }
        return was;
    }

    int told(int p, int what) {
        if (noPebble(p)) {
            return -5;
        }
        Pebble pebble = now.pebbles.get(p);
        int[] all = {pebble.kind, pebble.more, pebble.size, pebble.round, pebble.isSand() ? 1 : 0};
        return what < 0 || what > 4 ? -7 : all[what];
    }

    int walk(int j, int p, int n) {
        if (!now.has(j, p)) {
            return -5;
        }
        if (n < 0 || n > 60) {
            return -7;
        }
        return now.judges.get(j).miles + n > 999 ? -4 : go(now, j, p, n);
    }

    int hear(int j, int p, int n, int what) {
        if (!now.has(j, p)) {
            return -5;
        }
        if (n < 0 || n > 60 || what < 0 || what > 3) {
            return -7;
        }
        World w = now.copy();
        int felt = go(w, j, p, n);
        int[] all = {felt, w.pebbles.get(p).size, guilty(now.copy(), j, p, n) ? 1 : 0, w.judges.get(j).soles};
        return all[what];
    }

    int fewest(int j, int p) {
        if (!now.has(j, p)) {
            return -5;
        }
        int n = 0;
        while (n <= 60 && !guilty(now.copy(), j, p, n)) {
            n++;
        }
        return n > 60 ? -1 : n;
    }

    int sand(int j, int p) {
        if (!now.has(j, p)) {
            return -5;
        }
        for (int n = 0; n <= 60; n++) {
            World w = now.copy();
            go(w, j, p, n);
            if (w.pebbles.get(p).isSand()) {
                return n;
            }
        }
        return -1;
    }

    int unlike(int a, int b, int p) {
        if (!now.has(a, p) || !now.has(b, p) || a == b) {
            return -5;
        }
        int n = 0;
        while (n <= 60 && guilty(now.copy(), a, p, n) == guilty(now.copy(), b, p, n)) {
            n++;
        }
        return n > 60 ? -1 : n;
    }

    int hardest(int n, int what) {
        if (n < 0 || n > 60 || what < 0 || what > 1) {
            return -2;
        }
        int[] best = {-1, -1};
        for (int j = now.judges.size() - 1; j >= 0; j--) {
            int found = 0;
            for (int p = 0; p < now.pebbles.size(); p++) {
                found += guilty(now.copy(), j, p, n) ? 1 : 0;
            }
            if (found >= best[1]) {
                best = new int[] {j, found};
            }
        }
        return best[what];
    }

    int thick(int j, int p, int n) {
        if (!now.has(j, p)) {
            return -5;
        }
        if (n < 0 || n > 60) {
            return -7;
        }
        for (int v = 0; v <= 20; v++) {
            if (!guilty(soled(v, j), j, p, n)) {
                return v;
            }
        }
        return -1;
    }

    private World soled(int v, int j) {
        World w = now.copy();
        Judge was = w.judges.get(j);
        w.judges.set(j, new Judge(v, was.miles, was.pain));
        return w;
    }

    private int bestDigits;
    private int bestSum;

    int order(int j, int n, int goalWhat) {
        if (noJudge(j)) {
            return -5;
        }
        if (n < 0 || n > 60 || goalWhat < 0 || goalWhat / 10 > 1 || goalWhat % 10 > 1) {
            return -7;
        }
        bestDigits = -1;
        bestSum = Integer.MAX_VALUE;
        tryOrders(now, 0, 0, j, n, goalWhat / 10);
        return goalWhat % 10 == 1 ? bestSum : now.pebbles.isEmpty() ? -1 : bestDigits;
    }

    private void tryOrders(World w, int digits, int sum, int j, int n, int goal) {
        String chosen = String.valueOf(digits);
        boolean more = false;
        for (int p = 0; p < w.pebbles.size(); p++) {
            if (chosen.indexOf((char) ('1' + p)) < 0) {
                World next = w.copy();
                int felt = go(next, j, p, n);
                int costs = goal == 0 ? felt : felt >= says(next, 2, j, p) ? 1 : 0;
                tryOrders(next, 10 * digits + p + 1, sum + costs, j, n, goal);
                more = true;
            }
        }
        if (!more && sum < bestSum) {
            bestSum = sum;
            bestDigits = digits;
        }
    }

    int counsel(int j, int n, int what) {
        if (noJudge(j)) {
            return -5;
        }
        if (n < 0 || n > 60 || what < 0 || what > 1) {
            return -7;
        }
        return play(now, new ArrayList<>(), j, n)[what];
    }

    /** How many are GUILTY from here on, and the choice. */
    private int[] play(World w, List<Integer> chosen, int j, int n) {
        int[] best = {0, -1};
        for (int p = 0; p < w.pebbles.size(); p++) {
            if (chosen.contains(p)) {
                continue;
            }
            World next = w.copy();
            int here = guilty(next, j, p, n) ? 1 : 0;
            List<Integer> more = new ArrayList<>(chosen);
            more.add(p);
            int sum = here + play(next, more, j, n)[0];
            boolean prosecutes = chosen.size() % 2 == 0;
            if (best[1] < 0 || prosecutes && sum > best[0] || !prosecutes && sum < best[0]) {
                best = new int[] {sum, p};
            }
        }
        return best;
    }

    // ---- told circuits

    private int refusal(int s) {
        if (s < 0 || s > 3) {
            return -2;
        }
        if (sheets[s] == null) {
            return -11;
        }
        int size = java.lang.reflect.Array.getLength(sheets[s]);
        for (int i = 0; i < size; i++) {
            int v = number(s, i);
            int most = i % 3 == 0 ? now.pebbles.size() - 1 : i % 3 == 1 ? 60 : 1;
            if (v < 0 || v > most) {
                return -2;
            }
        }
        return size % 3 == 0 ? 0 : -2;
    }

    private int number(int s, int i) {
        return ((Number) java.lang.reflect.Array.get(sheets[s], i)).intValue();
    }

    private int size(int s) {
        return java.lang.reflect.Array.getLength(sheets[s]);
    }

    private int otherwise(World w, int s, int j) {
        for (int i = 0; i < size(s); i += 3) {
            if (guilty(w, j, number(s, i), number(s, i + 1)) != (number(s, i + 2) == 1)) {
                return i / 3;
            }
        }
        return -1;
    }

    private int refusal(int s, int j) {
        int r = refusal(s);
        return r != 0 ? r : noJudge(j) ? -5 : 0;
    }

    int reversed(int s, int j) {
        int r = refusal(s, j);
        return r != 0 ? r : otherwise(now.copy(), s, j);
    }

    int kinds(int s, int j, int p, int sort) {
        int r = refusal(s, j);
        if (r != 0) {
            return r;
        }
        if (noPebble(p)) {
            return -6;
        }
        if (sort != 0 && sort != 1) {
            return -7;
        }
        int bits = 0;
        for (int v = 0; v < (sort == 0 ? 6 : 10); v++) {
            World w = now.copy();
            Pebble was = w.pebbles.get(p);
            w.pebbles.set(p, Pebble.of(sort == 0 ? v : was.kind, sort == 1 ? v : was.more, was.size, was.round));
            if (otherwise(w, s, j) < 0) {
                bits += 1 << v;
            }
        }
        return bits;
    }

    int soled(int s, int j, boolean face) {
        int r = refusal(s, j);
        if (r != 0) {
            return r;
        }
        int bits = 0;
        for (int v = 0; v <= 20; v++) {
            bits += otherwise(soled(v, j), s, j) < 0 ? 1 << v : 0;
        }
        return bits;
    }

    int sizes(int s, int j, int p, int sortWhat) {
        int r = refusal(s, j);
        if (r != 0) {
            return r;
        }
        if (noPebble(p)) {
            return -6;
        }
        if (!List.of(0, 1, 10, 11).contains(sortWhat)) {
            return -7;
        }
        List<Integer> found = new ArrayList<>();
        for (int v = 0; v < 100; v++) {
            World w = now.copy();
            if (sortWhat < 10) {
                w.pebbles.get(p).size = v;
            } else {
                w.pebbles.get(p).round = v;
            }
            if (otherwise(w, s, j) < 0) {
                found.add(v);
            }
        }
        return sortWhat % 10 == 0 ? found.size() : found.isEmpty() ? -1 : found.get(0);
    }

    int whose(int s) {
        int r = refusal(s);
        if (r != 0) {
            return r;
        }
        int bits = 0;
        for (int j = 0; j < now.judges.size(); j++) {
            bits += otherwise(now.copy(), s, j) < 0 ? 1 << j : 0;
        }
        return bits;
    }

    int laws(int s, int j) {
        int r = refusal(s, j);
        if (r != 0) {
            return r;
        }
        int bits = 0;
        for (int t = 0; t < texts.size(); t++) {
            World w = now.copy();
            w.law = t;
            bits += otherwise(w, s, j) < 0 ? 1 << t : 0;
        }
        return bits;
    }

    int film(int s, int j, int n) {
        if (s < 0 || s > 3) {
            return -2;
        }
        if (noJudge(j)) {
            return -5;
        }
        if (n < 0 || n > 60) {
            return -7;
        }
        byte[] row = new byte[3 * now.pebbles.size()];
        World w = now.copy();
        int found = 0;
        for (int p = 0; p < now.pebbles.size(); p++) {
            row[3 * p] = (byte) p;
            row[3 * p + 1] = (byte) n;
            if (guilty(w, j, p, n)) {
                row[3 * p + 2] = 1;
                found++;
            }
        }
        sheets[s] = row;
        return found;
    }

    // ---- wear by lots

    private boolean lotsAreBad(int seed, int moreMiles) {
        return seed < 0 || seed > 99999 || moreMiles < 0 || moreMiles / 100 > 9 || moreMiles % 100 > 60;
    }

    int drawn(int seed, int j, int p, int moreMiles, int what) {
        if (!now.has(j, p)) {
            return -5;
        }
        if (lotsAreBad(seed, moreMiles) || what < 0 || what > 2) {
            return -7;
        }
        World w = now.copy();
        int felt = goDrawn(w, seed, j, p, moreMiles);
        int[] all = {felt, w.pebbles.get(p).size, felt >= says(w, 2, j, p) ? 1 : 0};
        return all[what];
    }

    long odds(int seed, int seeds, int j, int p, int moreMiles, int part) {
        if (lotsAreBad(seed, moreMiles) || seeds < 1 || seeds > 40 || !now.has(j, p) || part < 0 || part > 1) {
            return -4611686018427387904L;
        }
        int found = 0;
        for (int i = 0; i < seeds; i++) {
            World w = now.copy();
            found += goDrawn(w, seed + i, j, p, moreMiles) >= says(w, 2, j, p) ? 1 : 0;
        }
        int by = seeds;
        while (found % by != 0 || seeds % by != 0) {
            by--;
        }
        return part == 0 ? found / by : seeds / by;
    }

    int image() {
        image = now.copy();
        return now.pebbles.size();
    }

    int back() {
        if (image == null) {
            return -3;
        }
        now = image.copy();
        return now.pebbles.size();
    }

    // ---- the host

    int sheet(int s, int sort, int n) {
        if (s < 0 || s > 3 || sort < -1 || sort > 2 || sort >= 0 && n > 40) {
            return -2;
        }
        if (sort >= 0 && n < 0) {
            return -14;
        }
        sheets[s] = sort < 0 ? null : sort == 0 ? new byte[n] : sort == 1 ? new short[n] : new int[n];
        return 1;
    }

    int cell(int s, int i, int v) {
        if (s < 0 || s > 3) {
            return -2;
        }
        if (sheets[s] == null) {
            return -11;
        }
        if (i < 0 || i >= size(s)) {
            return -12;
        }
        if (sheets[s] instanceof byte[] bytes) {
            bytes[i] = (byte) v;
        } else if (sheets[s] instanceof short[] shorts) {
            shorts[i] = (short) v;
        } else if (sheets[s] instanceof int[] ints) {
            ints[i] = v;
        }
        return 1;
    }

    int copy(int s, int i, int other, int j, int n) {
        if (s < 0 || s > 3 || other < 0 || other > 3) {
            return -2;
        }
        try {
            System.arraycopy(sheets[s], i, sheets[other], j, n);
            return n;
        } catch (NullPointerException e) {
            return -11;
        } catch (ArrayStoreException e) {
            return -13;
        } catch (IndexOutOfBoundsException e) {
            return -12;
        }
    }

    int pebblesBy(int s, int sort, int at, int n) {
        if (s < 0 || s > 3 || sort < 0 || sort > 2 || n < 0 || n > 6) {
            return -2;
        }
        if (sheets[s] == null) {
            return -11;
        }
        int is = sheets[s] instanceof byte[] ? 0 : sheets[s] instanceof short[] ? 1 : 2;
        if (is != sort) {
            return -13;
        }
        int came = 0;
        try {
            for (int k = 0; k < n; k++) {
                int kindMore = number(s, Math.addExact(at, 2 * k));
                int sizeRound = number(s, Math.addExact(at, 2 * k + 1));
                came += pebble(kindMore, sizeRound) >= 0 ? 1 : 0;
            }
            return came;
        } catch (IndexOutOfBoundsException | ArithmeticException e) {
            return -12;
        }
    }

    long taken(int i, int kind) {
        if (kind < 0 || kind > 6) {
            return -2;
        }
        if (i < 0 || i > 9) {
            return -12;
        }
        if (i < 6 ? noPebble(i) : noJudge(i - 6)) {
            return -11;
        }
        List<Class<?>> kinds = List.of(Pebble.class, Flint.class, Shell.class, Shard.class, Pearl.class,
            Grit.class, Judge.class);
        Object there = i < 6 ? now.pebbles.get(i) : now.judges.get(i - 6);
        return !kinds.get(kind).isInstance(there) ? -13 : there instanceof Judge judge ? judge.pain() : i;
    }
}
