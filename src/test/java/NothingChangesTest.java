import java.util.ArrayList;
import java.util.List;
import java.util.function.Consumer;
import java.util.function.Supplier;

/** Terms 2: what is refused, and what is asked, changes nothing, but where it is told: of all that can be seen. */
final class NothingChangesTest {
    private final List<Consumer<PebbleInShoe>> calls = new ArrayList<>();
    private final List<String> names = new ArrayList<>();

    private NothingChangesTest() {
    }

    static void run() {
        NothingChangesTest test = new NothingChangesTest();
        test.asked();
        test.askedOfSheets();
        test.refused();
        test.refusedByHost();
        test.all(NothingChangesTest::prepared, true);
        NothingChangesTest full = new NothingChangesTest();
        full.refusedAsFull();
        full.all(NothingChangesTest::full, true);
        NothingChangesTest without = new NothingChangesTest();
        without.add("back, STATE", x -> x.back());
        without.all(NothingChangesTest::withoutImage, true);
        NothingChangesTest changes = new NothingChangesTest();
        changes.changes();
        // so that the seeing itself is no blind one
        changes.all(NothingChangesTest::prepared, false);
    }

    private void all(Supplier<PebbleInShoe> made, boolean stays) {
        String ahead = allSeen(made.get());
        for (int i = 0; i < calls.size(); i++) {
            PebbleInShoe x = made.get();
            calls.get(i).accept(x);
            String how = stays ? "Terms 2: nothing changes by " : "a change is seen by ";
            Check.holds(how + names.get(i), ahead.equals(allSeen(x)) == stays);
        }
    }

    private void add(String name, Consumer<PebbleInShoe> call) {
        names.add(name);
        calls.add(call);
    }

    /** Of all that there can be something: THE IMAGE is of less, THE TAPE is begun, a SHEET of each sort. */
    private static PebbleInShoe prepared() {
        PebbleInShoe x = Made.judges(4, 11);
        x.pebble(35, 8010);
        x.pebble(22, 9003);
        Tape.law(x, "feels size-round;wears 1+judge;bars 40;");
        x.walk(1, 0, 9);
        x.image();
        x.judge(2);
        x.pebble(57, 7000);
        x.pebble(41, 6060);
        x.force(0);
        x.walk(0, 1, 12);
        x.put(2, 1, 5);
        x.shoe(2, 1, 990);
        Tape.feed(x, "feels 1;");
        Tape.row(x, 0, 0, 0, 3, 1);
        Tape.row(x, 1, 1, 59, 9999, 3, 20);
        Tape.row(x, 2, 2, 1, 2, 1, 0, 60, 0);
        return x;
    }

    /** Nothing has room, THE IMAGE is of less. */
    private static PebbleInShoe full() {
        PebbleInShoe x = Made.judges(4, 11);
        Made.rounds(x, 1, 2, 3, 4);
        for (int t = 1; t < 6; t++) {
            Tape.text(x, "feels " + t + ";wears 1;bars 1;");
        }
        x.force(4);
        x.image();
        x.judge(5);
        x.judge(6);
        Made.rounds(x, 5, 6);
        x.shoe(3, 1, 999);
        Tape.feed(x, "-".repeat(160));
        Tape.row(x, 0, 0, 10, 11);
        return x;
    }

    private static PebbleInShoe withoutImage() {
        PebbleInShoe x = Made.pair(3, 4, 4010);
        x.walk(0, 0, 11);
        return x;
    }

    /** All is read, THE IMAGE by back(), SHEETS by PEBBLES that come by their numbers; x is spent then. */
    private static String allSeen(PebbleInShoe x) {
        StringBuilder seen = new StringBuilder();
        state(x, seen);
        int[] sizes = new int[4];
        for (int s = 0; s < 4; s++) {
            sizes[s] = Made.size(x, s);
            seen.append(" sheet ").append(Made.sort(x, s)).append(' ').append(sizes[s]);
        }
        seen.append(" tape ").append(x.feed(1, ' ', 0, 0, 0, 0)).append(' ').append(x.text());
        seen.append(" back ").append(x.back());
        state(x, seen);
        for (int s = 0; s < 3; s++) {
            for (int i = 0; i < sizes[s]; i++) {
                seen.append(' ').append(Made.number(x, s, i));
            }
        }
        return seen.toString();
    }

    private static void state(PebbleInShoe x, StringBuilder seen) {
        for (int what = 0; what < 5; what++) {
            seen.append(' ').append(x.count(what));
        }
        seen.append(' ').append(MilesTest.state(x));
        for (int part = 0; part < 3; part++) {
            for (int j = 0; j < 3; j++) {
                seen.append(' ').append(x.asks(part, j, j));
            }
        }
    }

    private void asked() {
        add("count", x -> x.count(3));
        add("bench", x -> x.bench(1, 2));
        add("asks", x -> x.asks(1, 2, 3));
        add("told", x -> x.told(2, 4));
        for (int what = 0; what < 4; what++) {
            int w = what;
            add("hear, what " + w, x -> x.hear(2, 0, 60, w));
        }
        add("fewest", x -> x.fewest(0, 0));
        add("fewest, none", x -> x.fewest(1, 3));
        add("sand", x -> x.sand(1, 2));
        add("unlike", x -> x.unlike(0, 2, 1));
        for (int what = 0; what < 2; what++) {
            int w = what;
            add("hardest, what " + w, x -> x.hardest(60, w));
            add("order, what " + w, x -> x.order(2, 60, w));
            add("order, goal 1, what " + w, x -> x.order(0, 7, 10 + w));
            add("counsel, what " + w, x -> x.counsel(1, 33, w));
            add("odds, part " + w, x -> x.odds(99990, 40, 2, 0, 955, w));
        }
        add("thick", x -> x.thick(1, 0, 5));
        for (int what = 0; what < 3; what++) {
            int w = what;
            add("drawn, what " + w, x -> x.drawn(5, 0, 1, 960, w));
        }
        add("taken, a PEBBLE", x -> x.taken(0, 1));
        add("taken, a JUDGE", x -> x.taken(7, 6));
    }

    private void askedOfSheets() {
        add("reversed", x -> x.reversed(2, 0));
        add("reversed", x -> x.reversed(0, 2));
        add("kinds", x -> x.kinds(2, 0, 1, 0));
        add("kinds of MORE", x -> x.kinds(2, 0, 1, 1));
        add("soled", x -> x.soled(2, 1));
        add("sizes", x -> x.sizes(2, 1, 0, 0));
        add("sizes, the least ROUND", x -> x.sizes(2, 1, 1, 11));
        add("whose", x -> x.whose(2));
        add("laws", x -> x.laws(2, 0));
        add("n 0: walk", x -> x.walk(0, 0, 0));
        add("n 0: copy", x -> x.copy(1, 0, 1, 2, 0));
        add("n 0: pebblesBy", x -> x.pebblesBy(1, 1, 0, 0));
    }

    private void refused() {
        add("judge, BAD", x -> x.judge(21));
        add("shoe, -5", x -> x.shoe(3, 0, 1));
        add("shoe, what", x -> x.shoe(0, 2, 1));
        add("shoe, SOLES", x -> x.shoe(0, 0, 21));
        add("shoe, MILES", x -> x.shoe(0, 1, 1000));
        add("bench, -5", x -> x.bench(3, 0));
        add("feed, n", x -> x.feed(6, 1, 1, 1, 1, 1));
        add("feed, n 0", x -> x.feed(0, 1, 1, 1, 1, 1));
        for (int place = 0; place < 5; place++) {
            int p = place;
            add("feed, byte " + p, x -> x.feed(5, p == 0 ? -1 : 1, p == 1 ? 256 : 1, p == 2 ? 256 : 1, p == 3 ? -1 : 1,
                p == 4 ? 256 : 1));
        }
        add("force, BAD", x -> x.force(2));
        add("force, BAD", x -> x.force(-1));
        add("asks, BAD", x -> x.asks(3, 0, 0));
        add("pebble, kindMore", x -> x.pebble(60, 0));
        add("pebble, sizeRound", x -> x.pebble(0, 10000));
        add("put, -5", x -> x.put(4, 0, 1));
        add("put, what", x -> x.put(0, 2, 1));
        add("put, SIZE", x -> x.put(0, 0, 100));
        add("put, ROUND", x -> x.put(0, 1, -1));
        add("walk, no JUDGE", x -> x.walk(3, 0, 1));
        add("walk, no PEBBLE", x -> x.walk(0, 4, 1));
        add("walk, n", x -> x.walk(0, 0, 61));
        add("walk, FULL", x -> x.walk(2, 0, 10));
        add("hear, -7", x -> x.hear(0, 0, 61, 0));
        add("thick, -7", x -> x.thick(0, 0, 61));
        add("order, -7", x -> x.order(0, 1, 2));
        add("counsel, -7", x -> x.counsel(0, 61, 0));
        add("hardest, BAD", x -> x.hardest(61, 0));
        add("unlike, -5", x -> x.unlike(0, 0, 0));
        add("drawn, -7", x -> x.drawn(-1, 0, 0, 1, 0));
        add("odds, NO", x -> x.odds(0, 41, 0, 0, 1, 0));
        add("kinds, -7", x -> x.kinds(2, 0, 0, 2));
        add("sizes, -7", x -> x.sizes(2, 0, 0, 2));
        add("reversed, BAD", x -> x.reversed(1, 0));
        add("film, BAD", x -> x.film(4, 0, 1));
        add("film, -5", x -> x.film(0, 3, 1));
        add("film, -7", x -> x.film(0, 0, 61));
    }

    private void refusedByHost() {
        add("sheet, BAD", x -> x.sheet(4, 0, 1));
        add("sheet, sort", x -> x.sheet(0, 3, 1));
        add("sheet, n", x -> x.sheet(0, 0, 41));
        add("sheet, -14", x -> x.sheet(0, 0, -1));
        add("cell, BAD", x -> x.cell(4, 0, 9));
        add("cell, -11", x -> x.cell(3, 0, 9));
        add("cell, -12", x -> x.cell(0, 3, 9));
        add("cell, -12", x -> x.cell(0, -1, 9));
        add("copy, BAD", x -> x.copy(0, 0, 4, 1, 1));
        add("copy, -11", x -> x.copy(0, 0, 3, 0, 1));
        add("copy, -13", x -> x.copy(1, 0, 2, 0, 1));
        add("copy, -12 from", x -> x.copy(2, 4, 2, 0, 3));
        add("copy, -12 to", x -> x.copy(2, 0, 2, 4, 3));
        add("copy, n", x -> x.copy(2, 0, 2, 1, -1));
        add("pebblesBy, BAD", x -> x.pebblesBy(1, 1, 0, 7));
        add("pebblesBy, -11", x -> x.pebblesBy(3, 1, 0, 1));
        add("pebblesBy, -13", x -> x.pebblesBy(1, 2, 0, 1));
        add("pebblesBy, -12", x -> x.pebblesBy(1, 1, 3, 1));
        add("pebblesBy, left out", x -> x.pebblesBy(1, 1, 1, 1));
        add("taken, -12", x -> x.taken(10, 0));
        add("taken, -13", x -> x.taken(0, 4));
    }

    private void refusedAsFull() {
        add("judge, FULL", x -> x.judge(1));
        add("pebble, FULL", x -> x.pebble(1, 1));
        add("feed, FULL", x -> x.feed(1, 1, 1, 1, 1, 1));
        add("text, FULL", x -> x.text());
        add("walk, FULL", x -> x.walk(3, 5, 1));
        add("pebblesBy, all are left out", x -> x.pebblesBy(0, 0, 0, 1));
    }

    private void changes() {
        add("judge", x -> x.judge(0));
        add("shoe", x -> x.shoe(0, 0, 20));
        add("shoe", x -> x.shoe(0, 1, 0));
        add("feed", x -> x.feed(1, 'x', 0, 0, 0, 0));
        add("text", x -> x.text());
        add("force", x -> x.force(1));
        add("pebble", x -> x.pebble(0, 0));
        add("put", x -> x.put(3, 0, 0));
        add("put", x -> x.put(3, 1, 0));
        add("walk", x -> x.walk(0, 0, 1));
        add("film", x -> x.film(3, 0, 1));
        add("film", x -> x.film(0, 0, 1));
        add("image", x -> x.image());
        add("back", x -> x.back());
        add("sheet", x -> x.sheet(3, 0, 0));
        add("sheet", x -> x.sheet(0, 0, 3));
        add("sheet", x -> x.sheet(1, 2, 4));
        add("sheet", x -> x.sheet(1, -1, 4));
        add("cell", x -> x.cell(2, 5, 1));
        add("copy", x -> x.copy(1, 2, 1, 1, 1));
        add("pebblesBy", x -> x.pebblesBy(1, 1, 2, 1));
    }
}
