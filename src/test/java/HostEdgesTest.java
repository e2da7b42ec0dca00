/** Promises 29 to 37: each sentence that names a boundary, by a test of its own. */
final class HostEdgesTest {
    private static final int LEAST = Integer.MIN_VALUE;
    private static final int GREATEST = Integer.MAX_VALUE;

    private HostEdgesTest() {
    }

    static void run() {
        drawn();
        drawnRefused();
        odds();
        oddsRefused();
        image();
        back();
        backAgain();
        sheet();
        sheetRefused();
        cellBits();
        cellRefused();
        copyAsTheyWere();
        copyTillTheEnd();
        copyRefused();
        pebblesBy();
        pebblesByRefused();
        pebblesByOutside();
        taken();
        takenRefused();
    }

    private static void due(String what, long got, long want) {
        Check.due(what, got, want);
    }

    // ---- wear by lots

    private static void drawn() {
        // LOTS of SEED 0 modulo 10: 1, 4; of SEED 99999: 6, 9
        PebbleInShoe x = Made.pair(0, 50, 9900, "feels size;wears 0;bars 197;");
        due("29: FELT", x.drawn(0, 0, 0, 902, 0), 99 + 98);
        due("29: SIZE then", x.drawn(0, 0, 0, 902, 1), 94);
        due("29: GUILTY", x.drawn(0, 0, 0, 902, 2), 1);
        due("29: FELT by SEED 99999", x.drawn(99999, 0, 0, 902, 0), 99 + 93);
        due("29: SIZE by SEED 99999", x.drawn(99999, 0, 0, 902, 1), 84);
        due("29: not GUILTY by SEED 99999", x.drawn(99999, 0, 0, 902, 2), 0);
        Tape.law(x, "feels 0;wears 0;bars 1-(size=94);");
        due("29: bars told behind", x.drawn(0, 0, 0, 902, 2), 1);
        due("29: 0 MILES, SIZE", x.drawn(0, 0, 0, 900, 1), 99);
        due("29: 0 MILES, GUILTY", x.drawn(0, 0, 0, 900, 2), 0);
    }

    private static void drawnRefused() {
        PebbleInShoe x = Made.pair(0, 0, 4010);
        for (int v : new int[] {-1, 1, LEAST, GREATEST}) {
            due("29: no such JUDGE " + v, x.drawn(0, v, 0, 0, 0), -5);
            due("29: no such PEBBLE " + v, x.drawn(0, 0, v, 0, 0), -5);
            due("29: ahead of -7", x.drawn(-1, v, v, 61, 3), -5);
        }
        for (int v : new int[] {-1, 100000, LEAST, GREATEST}) {
            due("29: SEED " + v, x.drawn(v, 0, 0, 0, 0), -7);
        }
        for (int v : new int[] {-1, 61, 961, 1000, LEAST, GREATEST}) {
            due("29: moreMiles " + v, x.drawn(0, 0, 0, v, 0), -7);
        }
        for (int v : new int[] {-1, 3, LEAST, GREATEST}) {
            due("29: what " + v, x.drawn(0, 0, 0, 0, v), -7);
        }
    }

    private static void oddsDue(PebbleInShoe x, int seed, int seeds, int above, int below) {
        due("30: above the line, " + seeds + " from " + seed, x.odds(seed, seeds, 0, 0, 901, 0), above);
        due("30: below the line, " + seeds + " from " + seed, x.odds(seed, seeds, 0, 0, 901, 1), below);
    }

    private static void odds() {
        // GUILTY is who draws 4 or more: SEEDS 0 .. 9 draw 1, 2, .. 9, 0, and so on by tens
        PebbleInShoe x = Made.pair(0, 0, 9900, "feels 0;wears 0;bars 95<size;");
        oddsDue(x, 0, 3, 0, 1);
        oddsDue(x, 0, 4, 1, 4);
        oddsDue(x, 2, 2, 1, 2);
        oddsDue(x, 3, 6, 1, 1);
        oddsDue(x, 0, 7, 4, 7);
        oddsDue(x, 0, 10, 3, 5);
        oddsDue(x, 0, 40, 3, 5);
        oddsDue(x, 1, 39, 8, 13);
        oddsDue(x, 3, 1, 1, 1);
        oddsDue(x, 2, 1, 0, 1);
        // SEED 99999 and on draw 6, 7, 8, 9, 0, 1
        oddsDue(x, 99999, 1, 1, 1);
        oddsDue(x, 99999, 5, 4, 5);
        oddsDue(x, 99999, 6, 2, 3);
        oddsDue(x, 99998, 7, 5, 7);
        due("30: in thought", x.told(0, 2) + x.bench(0, 1), 99);
    }

    private static void oddsRefused() {
        PebbleInShoe x = Made.pair(0, 0, 4010);
        long no = -4611686018427387904L;
        for (int v : new int[] {-1, 100000, LEAST, GREATEST}) {
            due("30: SEED " + v, x.odds(v, 1, 0, 0, 0, 0), no);
        }
        for (int v : new int[] {0, -1, 41, LEAST, GREATEST}) {
            due("30: seeds " + v, x.odds(0, v, 0, 0, 0, 0), no);
        }
        for (int v : new int[] {-1, 1, LEAST, GREATEST}) {
            due("30: no such JUDGE " + v, x.odds(0, 1, v, 0, 0, 0), no);
            due("30: no such PEBBLE " + v, x.odds(0, 1, 0, v, 0, 0), no);
        }
        for (int v : new int[] {-1, 61, 961, 1000, LEAST, GREATEST}) {
            due("30: moreMiles " + v, x.odds(0, 1, 0, 0, v, 0), no);
        }
        for (int v : new int[] {-1, 2, LEAST, GREATEST}) {
            due("30: part " + v, x.odds(0, 1, 0, 0, 0, v), no);
        }
        due("30: seeds 40", x.odds(99999, 40, 0, 0, 960, 1), 1);
    }

    private static void image() {
        PebbleInShoe x = new PebbleInShoe();
        due("31: no PEBBLES", x.image(), 0);
        for (int p = 1; p <= 6; p++) {
            x.pebble(0, 0);
            due("31: how many PEBBLES", x.image(), p);
        }
        due("31: PEBBLES stay", x.count(0), 6);
    }

    private static void back() {
        PebbleInShoe x = Made.judges(3, 4);
        due("32: there is none", x.back(), -3);
        due("32: JUDGES stay by STATE", x.count(1), 2);
        x.pebble(11, 2233);
        x.image();
        x.judge(5);
        x.judge(6);
        Made.rounds(x, 1, 2, 3, 4, 5);
        due("32: how many PEBBLES there are", x.back(), 1);
        due("32: PEBBLES that came since are none", x.count(0), 1);
        due("32: PEBBLES that came since are none", x.told(1, 0), -5);
        due("32: JUDGES that came since are none", x.count(1), 2);
        due("32: JUDGES that came since are none", x.bench(2, 0), -5);
        due("32: who was there is", x.bench(1, 0), 4);
        due("32: what was there is", x.told(0, 2), 22);
        due("32: their numbers come again", x.judge(20), 2);
        due("32: their numbers come again", x.pebble(59, 1), 1);
        due("32: a new JUDGE", x.bench(2, 0), 20);
        due("32: a new PEBBLE", x.told(1, 0), 5);
        PebbleInShoe empty = new PebbleInShoe();
        empty.image();
        empty.judge(1);
        empty.pebble(0, 0);
        due("32: none at all", empty.back(), 0);
        due("32: no JUDGES", empty.count(1), 0);
    }

    private static void backAgain() {
        PebbleInShoe x = Made.pair(0, 0, 4010);
        Tape.text(x, "feels 1;wears 1;bars 1;");
        x.image();
        for (int i = 0; i < 3; i++) {
            x.walk(0, 0, 7);
            x.put(0, 1, 1 + i);
            x.force(1);
            x.pebble(0, 0);
            due("32: as in THE IMAGE, again", x.back(), 1);
            due("32: MILES", x.bench(0, 1), 0);
            due("32: PAIN", x.bench(0, 2), 0);
            due("32: SIZE", x.told(0, 2), 40);
            due("32: ROUND", x.told(0, 3), 10);
            due("32: THE LAW", x.count(3), 0);
        }
        x.force(1);
        x.image();
        x.force(0);
        x.back();
        due("32: THE LAW of the last IMAGE", x.count(3), 1);
        Tape.text(x, "feels 2;wears 2;bars 2;");
        x.force(2);
        x.back();
        due("32: TEXTS that came since stay", x.count(2), 3);
        due("32: and can be THE LAW", x.force(2), 1);
    }

    // ---- the host

    private static void sheet() {
        PebbleInShoe x = Made.judges(0);
        Made.rounds(x, 0);
        x.image();
        for (int sort = 0; sort <= 2; sort++) {
            for (int n : new int[] {0, 1, 40}) {
                due("33: a row of " + n + " of sort " + sort, x.sheet(sort, sort, n), 1);
                due("33: its sort", Made.sort(x, sort), sort);
                due("33: its size", Made.size(x, sort), n);
            }
            x.sheet(sort, sort, 3);
            for (int i = 0; i < 3; i++) {
                due("33: all 0", Made.number(x, sort, i), 0);
                x.cell(sort, i, 5);
            }
            x.sheet(sort, sort, 3);
            for (int i = 0; i < 3; i++) {
                due("33: all 0 anew", Made.number(x, sort, i), 0);
            }
        }
        for (int n : new int[] {0, -1, 41, LEAST, GREATEST}) {
            x.sheet(1, 1, 3);
            due("33: missing, n " + n + " does not matter", x.sheet(1, -1, n), 1);
            due("33: missing", x.cell(1, 0, 0), -11);
            due("33: missing again", x.sheet(1, -1, n), 1);
        }
    }

    private static void sheetRefused() {
        PebbleInShoe x = new PebbleInShoe();
        x.sheet(0, 1, 2);
        for (int s : new int[] {-1, 4, LEAST, GREATEST}) {
            due("33: SHEET " + s, x.sheet(s, 0, 1), -2);
            due("33: SHEET " + s + ", missing", x.sheet(s, -1, 1), -2);
            due("33: ahead of -14", x.sheet(s, 0, -1), -2);
        }
        for (int sort : new int[] {-2, 3, LEAST, GREATEST}) {
            due("33: sort " + sort, x.sheet(0, sort, 1), -2);
            due("33: ahead of -14", x.sheet(0, sort, -1), -2);
        }
        for (int sort = 0; sort <= 2; sort++) {
            due("33: n 41", x.sheet(0, sort, 41), -2);
            due("33: n far above 40", x.sheet(0, sort, GREATEST), -2);
            due("33: n -1", x.sheet(0, sort, -1), -14);
            due("33: n far below 0", x.sheet(0, sort, LEAST), -14);
        }
        due("33: the row stays", Made.sort(x, 0), 1);
        due("33: the row stays", Made.size(x, 0), 2);
    }

    private static void cellDue(int sort, int v, int want) {
        PebbleInShoe x = new PebbleInShoe();
        x.image();
        x.sheet(0, sort, 3);
        due("34: number 1 of sort " + sort + " becomes " + v, x.cell(0, 1, v), 1);
        due("34: of sort " + sort + ": " + v, Made.number(x, 0, 1), want);
        due("34: the one ahead stays", Made.number(x, 0, 0), 0);
        due("34: the one behind stays", Made.number(x, 0, 2), 0);
    }

    private static void cellBits() {
        // -1: below 0, or too large for a PEBBLE
        cellDue(0, 0, 0);
        cellDue(0, 127, 127);
        cellDue(0, 128, -1);
        cellDue(0, 255, -1);
        cellDue(0, 256, 0);
        cellDue(0, 256 + 99, 99);
        cellDue(0, 9999, 9999 % 256);
        cellDue(0, -1, -1);
        cellDue(0, -256, 0);
        cellDue(0, -129, 127);
        cellDue(0, LEAST, 0);
        cellDue(0, GREATEST - 255 + 7, 7);
        cellDue(1, 9999, 9999);
        cellDue(1, 128, 128);
        cellDue(1, 65536, 0);
        cellDue(1, 65536 + 9999, 9999);
        cellDue(1, 10000, -1);
        cellDue(1, 32768, -1);
        cellDue(1, 65535, -1);
        cellDue(1, -65536 + 4321, 4321);
        cellDue(1, LEAST, 0);
        cellDue(1, GREATEST - 65535 + 77, 77);
        cellDue(2, 9999, 9999);
        cellDue(2, 10000, -1);
        cellDue(2, 65536, -1);
        cellDue(2, LEAST, -1);
        cellDue(2, GREATEST, -1);
        cellDue(2, -1, -1);
    }

    private static void cellRefused() {
        PebbleInShoe x = new PebbleInShoe();
        x.sheet(0, 2, 3);
        x.sheet(1, 0, 0);
        for (int s : new int[] {-1, 4, LEAST, GREATEST}) {
            due("34: SHEET " + s, x.cell(s, 0, 0), -2);
            due("34: ahead of -12", x.cell(s, -1, 0), -2);
        }
        for (int s = 2; s < 4; s++) {
            due("34: missing", x.cell(s, 0, 0), -11);
            due("34: ahead of -12", x.cell(s, -1, 0), -11);
            due("34: ahead of -12", x.cell(s, 40, 0), -11);
        }
        for (int i : new int[] {-1, 3, 4, 39, 40, LEAST, GREATEST}) {
            due("34: place " + i, x.cell(0, i, 0), -12);
        }
        due("34: a row of none", x.cell(1, 0, 0), -12);
        due("34: place 0", x.cell(0, 0, 0), 1);
        due("34: place 2", x.cell(0, 2, 0), 1);
    }

    /** The first digits of a SHEET's numbers, the first highest. */
    private static int digits(PebbleInShoe x, int s, int n) {
        int digits = 0;
        for (int i = 0; i < n; i++) {
            digits = 10 * digits + Made.number(x, s, i);
        }
        return digits;
    }

    private static void copyAsTheyWere() {
        for (int sort = 0; sort <= 2; sort++) {
            PebbleInShoe x = new PebbleInShoe();
            x.image();
            Tape.row(x, 0, sort, 1, 2, 3, 4, 5);
            Tape.row(x, 1, sort, 6, 7, 8);
            due("35: to another one", x.copy(0, 1, 1, 0, 2), 2);
            due("35: it is there", digits(x, 1, 3), 238);
            due("35: and here as it was", digits(x, 0, 5), 12345);
            due("35: to the right of its own", x.copy(0, 0, 0, 1, 4), 4);
            due("35: as they were", digits(x, 0, 5), 11234);
            due("35: to the left of its own", x.copy(0, 1, 0, 0, 4), 4);
            due("35: as they were", digits(x, 0, 5), 12344);
            due("35: onto itself", x.copy(0, 0, 0, 0, 5), 5);
            due("35: as they were", digits(x, 0, 5), 12344);
        }
    }

    private static void copyTillTheEnd() {
        PebbleInShoe x = new PebbleInShoe();
        x.image();
        Tape.row(x, 0, 2, 1, 2, 3, 4, 5);
        Tape.row(x, 1, 2, 6, 7, 8);
        due("35: one more than the other has", x.copy(0, 0, 1, 0, 4), -12);
        due("35: one more than it has", x.copy(1, 0, 0, 0, 4), -12);
        due("35: one place too far from", x.copy(1, 1, 0, 0, 3), -12);
        due("35: one place too far to", x.copy(0, 0, 1, 1, 3), -12);
        due("35: none of it came", digits(x, 0, 5), 12345);
        due("35: none of it came", digits(x, 1, 3), 678);
        due("35: all of it, to the end", x.copy(1, 0, 0, 2, 3), 3);
        due("35: it is there", digits(x, 0, 5), 12678);
        due("35: n 0", x.copy(0, 0, 1, 0, 0), 0);
        due("35: n 0 from the end to the end", x.copy(0, 5, 1, 3, 0), 0);
        due("35: n 0 from behind the end", x.copy(0, 6, 1, 3, 0), -12);
        due("35: n 0 to behind the end", x.copy(0, 5, 1, 4, 0), -12);
        due("35: n 0 changes nothing", digits(x, 1, 3), 678);
        x.sheet(0, 2, 0);
        due("35: n 0 of a row of none", x.copy(0, 0, 0, 0, 0), 0);
        due("35: n 1 of a row of none", x.copy(0, 0, 0, 0, 1), -12);
        x.sheet(0, 1, 40);
        due("35: all 40", x.copy(0, 0, 0, 0, 40), 40);
        due("35: 41", x.copy(0, 0, 0, 0, 41), -12);
    }

    private static void copyRefused() {
        PebbleInShoe x = new PebbleInShoe();
        x.sheet(0, 0, 5);
        x.sheet(1, 1, 5);
        x.sheet(2, 0, 5);
        for (int s : new int[] {-1, 4, LEAST, GREATEST}) {
            due("35: SHEET " + s, x.copy(s, 0, 0, 0, 1), -2);
            due("35: other SHEET " + s, x.copy(0, 0, s, 0, 1), -2);
            due("35: ahead of -11", x.copy(3, 0, s, 0, 1), -2);
            due("35: ahead of -11", x.copy(s, 0, 3, 0, 1), -2);
            due("35: ahead of -12", x.copy(s, 9, s, 9, -1), -2);
        }
        due("35: missing", x.copy(3, 0, 0, 0, 1), -11);
        due("35: the other is missing", x.copy(0, 0, 3, 0, 1), -11);
        due("35: both are missing", x.copy(3, 0, 3, 0, 1), -11);
        due("35: ahead of -12", x.copy(3, 9, 0, 9, -1), -11);
        due("35: ahead of -12, n 0", x.copy(0, 0, 3, 0, 0), -11);
        due("35: unlike sorts", x.copy(0, 0, 1, 0, 1), -13);
        due("35: unlike sorts", x.copy(1, 0, 0, 0, 1), -13);
        due("35: unlike sorts, n 0", x.copy(0, 0, 1, 0, 0), -13);
        due("35: ahead of -12", x.copy(0, 9, 1, 9, -1), -13);
        for (int v : new int[] {-1, LEAST, GREATEST}) {
            due("35: from " + v, x.copy(0, v, 2, 0, 1), -12);
            due("35: from " + v + ", n 0", x.copy(0, v, 2, 0, 0), -12);
            due("35: to " + v, x.copy(0, 0, 2, v, 1), -12);
            due("35: n " + v, x.copy(0, 0, 2, 0, v), -12);
            due("35: n " + v + ", further on", x.copy(0, 3, 2, 4, v), -12);
            due("35: all " + v, x.copy(0, v, 2, v, v), -12);
        }
    }

    private static void pebblesBy() {
        for (int sort = 0; sort <= 2; sort++) {
            PebbleInShoe x = new PebbleInShoe();
            Tape.row(x, 0, sort, 7, 59, 99, 34, 101, 60, 1, 0, 100, 11, 12, 0);
            due("36: n 0", x.pebblesBy(0, sort, 0, 0), 0);
            due("36: none came", x.count(0), 0);
            due("36: one from place 1", x.pebblesBy(0, sort, 1, 1), 1);
            due("36: KIND", x.told(0, 0), 5);
            due("36: MORE", x.told(0, 1), 9);
            due("36: SIZE", x.told(0, 2), 0);
            due("36: ROUND", x.told(0, 3), 99);
            due("36: others are left out: 60, 1", x.pebblesBy(0, sort, 3, 3), 2);
            due("36: two by two", x.told(1, 0), 3);
            due("36: two by two", x.told(1, 2), 1);
            due("36: two by two", x.told(2, 2), 1);
            due("36: two by two", x.told(2, 3), 0);
            due("36: to the very end", x.pebblesBy(0, sort, 10, 1), 1);
            due("36: to the very end", x.told(3, 1), 2);
            due("36: the third is outside", x.pebblesBy(0, sort, 7, 3), -12);
            due("36: what stood ahead came", x.count(0), 6);
        }
        PebbleInShoe y = new PebbleInShoe();
        y.sheet(0, 0, 40);
        due("36: six", y.pebblesBy(0, 0, 28, 6), 6);
        due("36: none has room", y.pebblesBy(0, 0, 0, 6), 0);
        due("36: six", y.count(0), 6);
    }

    private static void pebblesByRefused() {
        PebbleInShoe x = new PebbleInShoe();
        x.sheet(0, 0, 4);
        for (int s : new int[] {-1, 4, LEAST, GREATEST}) {
            due("36: SHEET " + s, x.pebblesBy(s, 0, 0, 1), -2);
            due("36: ahead of -12", x.pebblesBy(s, 0, -1, 1), -2);
        }
        for (int s = 0; s < 2; s++) {
            for (int sort : new int[] {-1, 3, LEAST, GREATEST}) {
                due("36: sort " + sort, x.pebblesBy(s, sort, 0, 1), -2);
            }
            for (int n : new int[] {-1, 7, LEAST, GREATEST}) {
                due("36: n " + n, x.pebblesBy(s, 0, 0, n), -2);
                due("36: ahead of -13", x.pebblesBy(s, 1, 0, n), -2);
            }
        }
        for (int sort = 0; sort <= 2; sort++) {
            due("36: missing", x.pebblesBy(1, sort, 0, 1), -11);
            due("36: missing, n 0", x.pebblesBy(1, sort, 0, 0), -11);
            due("36: ahead of -12", x.pebblesBy(1, sort, -1, 1), -11);
        }
        for (int sort = 1; sort <= 2; sort++) {
            due("36: of another sort", x.pebblesBy(0, sort, 0, 1), -13);
            due("36: of another sort, n 0", x.pebblesBy(0, sort, 0, 0), -13);
            due("36: ahead of -12", x.pebblesBy(0, sort, -1, 1), -13);
        }
        due("36: none came", x.count(0), 0);
    }

    private static void pebblesByOutside() {
        PebbleInShoe x = new PebbleInShoe();
        Tape.row(x, 0, 0, 0, 1, 0, 2, 0);
        for (int at : new int[] {-1, -2, 4, 5, 6, 39, 40, LEAST, GREATEST - 1, GREATEST}) {
            due("36: from place " + at, x.pebblesBy(0, 0, at, 1), -12);
            due("36: six from place " + at, x.pebblesBy(0, 0, at, 6), -12);
        }
        due("36: nothing stood ahead", x.count(0), 0);
        due("36: the third is outside", x.pebblesBy(0, 0, 0, 3), -12);
        due("36: what stood ahead came", x.count(0), 2);
        due("36: the first", x.told(0, 3), 1);
        due("36: the second", x.told(1, 3), 2);
        due("36: half of it is outside", x.pebblesBy(0, 0, 2, 2), -12);
        due("36: what stood ahead came", x.count(0), 3);
        due("36: it did", x.told(2, 3), 2);
        x.sheet(1, 1, 0);
        due("36: a row of none", x.pebblesBy(1, 1, 0, 1), -12);
        due("36: a row of none, n 0", x.pebblesBy(1, 1, 0, 0), 0);
    }

    private static void taken() {
        PebbleInShoe x = Made.judges(0, 0, 0, 0);
        for (int p = 0; p < 6; p++) {
            x.pebble(10 * (5 - p), 9900);
        }
        Tape.law(x, "feels 9;wears 0;bars 1;");
        x.walk(3, 0, 2);
        // by KIND: of which KINDS it is
        String[] kinds = {"0", "01", "02", "013", "024", "05"};
        for (int p = 0; p < 6; p++) {
            for (int kind = 0; kind < 6; kind++) {
                boolean is = kinds[5 - p].indexOf((char) ('0' + kind)) >= 0;
                due("37: KIND " + (5 - p) + " for a " + kind, x.taken(p, kind), is ? p : -13);
            }
            due("37: a PEBBLE for a JUDGE", x.taken(p, 6), -13);
        }
        for (int j = 0; j < 4; j++) {
            due("37: PAIN of JUDGE " + j, x.taken(6 + j, 6), j == 3 ? 18 : 0);
            for (int kind = 0; kind < 6; kind++) {
                due("37: a JUDGE for a PEBBLE", x.taken(6 + j, kind), -13);
            }
        }
    }

    private static void takenRefused() {
        PebbleInShoe x = Made.pair(0, 0, 4010);
        for (int i = 0; i < 10; i++) {
            boolean lies = i == 0 || i == 6;
            for (int kind = 0; kind <= 6; kind++) {
                if (!lies) {
                    due("37: nothing lies at " + i, x.taken(i, kind), -11);
                }
            }
            for (int kind : new int[] {-1, 7, LEAST, GREATEST}) {
                due("37: kind " + kind + " at " + i, x.taken(i, kind), -2);
            }
        }
        for (int i : new int[] {-1, 10, LEAST, GREATEST}) {
            due("37: place " + i, x.taken(i, 0), -12);
            due("37: place " + i, x.taken(i, 6), -12);
            due("37: kind ahead of the place", x.taken(i, 7), -2);
        }
    }
}
