/** Promises 22 to 28: each sentence that names a boundary, by a test of its own. */
final class CircuitEdgesTest {
    private static final int LEAST = Integer.MIN_VALUE;
    private static final int GREATEST = Integer.MAX_VALUE;

    private CircuitEdgesTest() {
    }

    static void run() {
        noCases();
        firstOtherwise();
        oneBehindTheOther();
        ofEachSort();
        refusedSheets();
        refusedSizes();
        refusedNumbers();
        numbersAtTheEdge();
        refusedJudges();
        refusedPebbles();
        kindsAtTheEnds();
        moreAtTheEnds();
        soledAtTheEnds();
        sizesAtTheEnds();
        whoseAtTheEnds();
        lawsAtTheEnds();
        film();
        filmOverRows();
        filmRefused();
        ofOneOnAnother();
    }

    private static void due(String what, long got, long want) {
        Check.due(what, got, want);
    }

    /** What each of the six calls answers to a SHEET, whatever comes behind it. */
    private static void allDue(PebbleInShoe x, String why, int s, int want) {
        for (int j : new int[] {0, 9}) {
            due("22: " + why, x.reversed(s, j), want);
            due("23: " + why, x.kinds(s, j, 9, 9), want);
            due("24: " + why, x.soled(s, j), want);
            due("25: " + why, x.sizes(s, j, 9, 9), want);
            due("27: " + why, x.laws(s, j), want);
        }
        due("26: " + why, x.whose(s), want);
    }

    private static void noCases() {
        PebbleInShoe x = Made.pair(0, 0, 4010);
        Tape.text(x, "feels 1;wears 1;bars 1;");
        x.sheet(0, 0, 0);
        due("22: none", x.reversed(0, 0), -1);
        due("23: all KINDS", x.kinds(0, 0, 0, 0), 0b111111);
        due("23: all MORE", x.kinds(0, 0, 0, 1), 0b1111111111);
        due("24: all SOLES", x.soled(0, 0), (1 << 21) - 1);
        due("25: all SIZES", x.sizes(0, 0, 0, 0), 100);
        due("25: the least SIZE", x.sizes(0, 0, 0, 1), 0);
        due("25: all ROUNDS", x.sizes(0, 0, 0, 10), 100);
        due("25: the least ROUND", x.sizes(0, 0, 0, 11), 0);
        due("26: all JUDGES", x.whose(0), 1);
        due("27: all TEXTS", x.laws(0, 0), 0b11);
        PebbleInShoe none = new PebbleInShoe();
        none.sheet(0, 0, 0);
        due("26: no JUDGES", none.whose(0), 0);
    }

    private static void firstOtherwise() {
        // GUILTY is a CASE behind which MILES are 13, no other
        PebbleInShoe x = Made.pair(0, 0, 4010, "feels 0;wears 0;bars 1-(miles=13);");
        x.sheet(0, 0, 39);
        for (int c = 0; c < 13; c++) {
            x.cell(0, 3 * c + 1, 1);
        }
        due("22: the last of 13", x.reversed(0, 0), 12);
        x.cell(0, 38, 1);
        due("22: none", x.reversed(0, 0), -1);
        x.cell(0, 35, 1);
        due("22: the last but one", x.reversed(0, 0), 11);
        x.cell(0, 8, 1);
        due("22: the first of two", x.reversed(0, 0), 2);
        x.cell(0, 2, 1);
        due("22: the first, from 0", x.reversed(0, 0), 0);
        due("22: in thought", x.bench(0, 1), 0);
    }

    private static void oneBehindTheOther() {
        PebbleInShoe x = Made.pair(9, 50, 9900, "feels 0;wears 1;bars 1-(size=97);");
        x.pebble(50, 9900);
        Tape.row(x, 0, 0, 0, 1, 0, 1, 1, 0, 0, 1, 1, 1, 1, 1);
        due("22: a PEBBLE is worn by its CASES alone", x.reversed(0, 0), -1);
        Tape.law(x, "feels 0;wears 0;bars 1-(soles=10);");
        Tape.row(x, 0, 0, 0, 9, 0, 1, 1, 1, 0, 9, 1, 0, 1, 0);
        due("22: SOLES grow from CASE to CASE", x.reversed(0, 0), -1);
        due("22: SOLES stay", x.bench(0, 0), 9);
        due("22: SIZE stays", x.told(0, 2), 99);
    }

    private static void ofEachSort() {
        PebbleInShoe x = Made.pair(0, 0, 4010);
        for (int sort = 0; sort <= 2; sort++) {
            Tape.row(x, sort, sort, 0, 60, 1, 0, 0, 0);
            due("22: of sort " + sort, x.reversed(sort, 0), -1);
            due("26: of sort " + sort, x.whose(sort), 1);
        }
    }

    private static void refusedSheets() {
        PebbleInShoe x = Made.pair(0, 0, 4010);
        for (int s : new int[] {-1, 4, LEAST, GREATEST}) {
            allDue(x, "BAD, SHEET " + s, s, -2);
        }
        for (int s = 0; s < 4; s++) {
            allDue(x, "missing, SHEET " + s, s, -11);
        }
        x.sheet(3, 2, 3);
        x.sheet(3, -1, 3);
        allDue(x, "missing again", 3, -11);
    }

    private static void refusedSizes() {
        PebbleInShoe x = Made.pair(0, 0, 4010);
        for (int n = 1; n <= 40; n++) {
            x.sheet(0, n % 3, n);
            if (n % 3 != 0) {
                allDue(x, "BAD, not by threes: " + n, 0, -2);
            } else {
                due("22: by threes: " + n, x.reversed(0, 0), -1);
                due("26: by threes: " + n, x.whose(0), 1);
            }
        }
    }

    private static void refusedNumbers() {
        int[][] none = {{-1, 2, 6, LEAST, GREATEST}, {-1, 61, LEAST, GREATEST}, {-1, 2, LEAST, GREATEST}};
        for (int place = 0; place < 9; place++) {
            PebbleInShoe x = Made.pair(0, 0, 4010);
            x.pebble(0, 4010);
            for (int v : none[place % 3]) {
                // the first CASE is found otherwise, if it is one
                Tape.row(x, 0, 2, 0, 0, 1, 0, 0, 0, 0, 0, 0);
                x.cell(0, place, v);
                allDue(x, "BAD, number " + place + " is " + v, 0, -2);
            }
        }
        PebbleInShoe y = Made.pair(0, 0, 4010);
        Tape.row(y, 0, 0, 0, 200, 0);
        allDue(y, "BAD, a byte is 200", 0, -2);
        PebbleInShoe empty = Made.judges(0);
        empty.sheet(0, 0, 3);
        allDue(empty, "BAD, there is no PEBBLE 0", 0, -2);
    }

    private static void numbersAtTheEdge() {
        PebbleInShoe x = Made.judges(0);
        Made.rounds(x, 0, 0, 0, 0, 0, 0);
        Tape.law(x, "feels 0;wears 0;bars 1-(miles=60);");
        Tape.row(x, 0, 0, 5, 0, 0, 0, 60, 1, 5, 60, 0);
        due("22: PEBBLES 0 and 5, MILES 0 and 60, 1 and 0", x.reversed(0, 0), -1);
    }

    private static void refusedJudges() {
        PebbleInShoe x = Made.pair(0, 0, 4010);
        x.sheet(0, 0, 3);
        x.sheet(1, 0, 0);
        for (int s = 0; s < 2; s++) {
            for (int j : new int[] {-1, 1, 4, LEAST, GREATEST}) {
                due("22: no such JUDGE " + j, x.reversed(s, j), -5);
                due("23: no such JUDGE " + j, x.kinds(s, j, 0, 0), -5);
                due("23: ahead of -6, -7", x.kinds(s, j, 9, 9), -5);
                due("24: no such JUDGE " + j, x.soled(s, j), -5);
                due("25: no such JUDGE " + j, x.sizes(s, j, 0, 0), -5);
                due("25: ahead of -6, -7", x.sizes(s, j, 9, 9), -5);
                due("27: no such JUDGE " + j, x.laws(s, j), -5);
            }
        }
    }

    private static void refusedPebbles() {
        PebbleInShoe x = Made.pair(0, 0, 4010);
        x.sheet(0, 0, 3);
        for (int p : new int[] {-1, 1, 6, LEAST, GREATEST}) {
            due("23: no such PEBBLE " + p, x.kinds(0, 0, p, 0), -6);
            due("23: ahead of -7", x.kinds(0, 0, p, 2), -6);
            due("25: no such PEBBLE " + p, x.sizes(0, 0, p, 0), -6);
            due("25: ahead of -7", x.sizes(0, 0, p, 2), -6);
        }
        for (int v : new int[] {-1, 2, 10, LEAST, GREATEST}) {
            due("23: sort " + v, x.kinds(0, 0, 0, v), -7);
        }
        for (int v : new int[] {-1, -10, 2, 9, 12, 19, 20, 21, 100, 101, 110, LEAST, GREATEST}) {
            due("25: sortWhat " + v, x.sizes(0, 0, 0, v), -7);
        }
    }

    private static void kindsAtTheEnds() {
        // 25 as a PEBBLE, a SHELL; 28 as a FLINT, a SHARD; 12 as a PEARL; 30 - 15 / 4 as a GRIT
        PebbleInShoe x = Made.pair(5, 3, 9900, "feels 30;wears 0;bars 28;");
        Tape.row(x, 0, 0, 0, 1, 1);
        due("23: a FLINT, a SHARD", x.kinds(0, 0, 0, 0), 0b001010);
        Tape.law(x, "feels 30;wears 0;bars 26+2*(miles=2);");
        Tape.row(x, 0, 0, 0, 1, 1, 0, 1, 0);
        due("23: a GRIT, by 27 between the two", x.kinds(0, 0, 0, 0), 0b100000);
        Tape.law(x, "feels 30;wears 0;bars 26+30*(miles=2);");
        due("23: those of 26 or more", x.kinds(0, 0, 0, 0), 0b101010);
        x.put(0, 0, 3);
        Tape.law(x, "feels 30;wears 0;bars 20+8*(miles=2);");
        // SAND are a SHELL, a PEARL with MORE 3, a GRIT
        due("23: a PEBBLE alone, bit 0", x.kinds(0, 0, 0, 0), 0b000001);
        Tape.row(x, 0, 0, 0, 1, 0);
        due("23: SAND", x.kinds(0, 0, 0, 0), 0b110100);
        x.put(0, 0, 99);
        Tape.law(x, "feels 30;wears 0;bars 27;");
        Tape.row(x, 0, 0, 0, 1, 0, 0, 1, 1);
        due("23: no KIND", x.kinds(0, 0, 0, 0), 0);
        PebbleInShoe y = Made.pair(5, 0, 9900, "feels 30;wears 0;bars 30;");
        Tape.row(y, 0, 0, 0, 1, 1);
        due("23: a GRIT alone, bit 5", y.kinds(0, 0, 0, 0), 0b100000);
        due("23: KIND stays", y.told(0, 0), 0);
    }

    private static void moreAtTheEnds() {
        PebbleInShoe x = Made.pair(5, 14, 9900, "feels 30;wears 0;bars 34;");
        Tape.row(x, 0, 0, 0, 1, 1);
        due("23: MORE 9 alone", x.kinds(0, 0, 0, 1), 1 << 9);
        Tape.law(x, "feels 30;wears 0;bars 35;");
        due("23: no MORE", x.kinds(0, 0, 0, 1), 0);
        Tape.law(x, "feels 30;wears 0;bars 26;");
        Tape.row(x, 0, 0, 0, 1, 0);
        due("23: MORE 0 alone", x.kinds(0, 0, 0, 1), 1);
        due("23: MORE stays", x.told(0, 1), 4);
        x.pebble(14, 9900);
        due("23: a PEBBLE that isn't told of", x.kinds(0, 0, 1, 1), 0);
    }

    private static void soledAtTheEnds() {
        PebbleInShoe x = Made.pair(7, 0, 9900, "feels 30;wears 0;bars 30;");
        Tape.row(x, 0, 0, 0, 1, 1);
        due("24: SOLES 0 alone", x.soled(0, 0), 1);
        Tape.law(x, "feels 30;wears 0;bars 31;");
        due("24: no SOLES", x.soled(0, 0), 0);
        Tape.law(x, "feels 30;wears 0;bars 11;");
        Tape.row(x, 0, 0, 0, 1, 0);
        due("24: SOLES 20 alone", x.soled(0, 0), 1 << 20);
        x.shoe(0, 1, 9);
        Tape.law(x, "feels 0;wears 0;bars 1-(soles=20);");
        Tape.row(x, 0, 0, 0, 1, 1);
        due("24: SOLES 19 and 20, had he these now", x.soled(0, 0), 3 << 19);
        due("24: SOLES stay", x.bench(0, 0), 7);
        due("24: MILES stay", x.bench(0, 1), 9);
    }

    private static void sizeDue(String law, int count, int least) {
        PebbleInShoe x = Made.pair(0, 0, 5050, law);
        x.pebble(0, 5050);
        Tape.row(x, 0, 0, 0, 0, 1);
        boolean ofSizes = law.indexOf("size") >= 0;
        int sort = ofSizes ? 0 : 10;
        due("25: how many by " + law, x.sizes(0, 0, 0, sort), count);
        due("25: the least by " + law, x.sizes(0, 0, 0, sort + 1), least);
        due("25: the other sort", x.sizes(0, 0, 0, 10 - sort), count == 100 ? 100 : 0);
        due("25: a PEBBLE that isn't told of", x.sizes(0, 0, 1, sort), count == 100 ? 100 : 0);
        due("25: SIZE stays", x.told(0, 2), 50);
        due("25: ROUND stays", x.told(0, 3), 50);
    }

    private static void sizesAtTheEnds() {
        for (String name : new String[] {"size", "round"}) {
            String bars = "feels 0;wears 0;bars ";
            sizeDue(bars + "1-(" + name + "=0);", 1, 0);
            sizeDue(bars + "1-(" + name + "=99);", 1, 99);
            sizeDue(bars + "1-(" + name + "=100);", 0, -1);
            sizeDue(bars + "1-(" + name + "=98 or 99=" + name + " or " + name + "=1);", 3, 1);
            sizeDue(bars + "0*" + name + ";", 100, 0);
        }
        // a PEBBLE's now: as it is ahead of the first CASE
        PebbleInShoe x = Made.pair(0, 0, 5050, "feels 0;wears 1;bars 1-(size=40);");
        Tape.row(x, 0, 0, 0, 5, 0, 0, 5, 1);
        due("25: SIZE 50 now", x.sizes(0, 0, 0, 0), 1);
        due("25: SIZE 50 now", x.sizes(0, 0, 0, 1), 50);
    }

    private static void whoseAtTheEnds() {
        PebbleInShoe x = Made.judges(1, 2, 3, 4);
        x.pebble(0, 4010);
        String[] bars = {"1-(judge=0)", "1-(judge=3)", "1", "0", "judge=1"};
        int[] want = {0b0001, 0b1000, 0, 0b1111, 0b1101};
        Tape.row(x, 0, 0, 0, 0, 1);
        for (int i = 0; i < 5; i++) {
            Tape.law(x, "feels 0;wears 0;bars " + bars[i] + ";");
            due("26: by bars " + bars[i], x.whose(0), want[i]);
        }
        due("26: in thought", x.bench(3, 1), 0);
    }

    private static void lawsAtTheEnds() {
        PebbleInShoe x = Made.pair(0, 0, 4010);
        Tape.row(x, 0, 0, 0, 1, 0);
        due("27: there is TEXT 0 alone, 30 is GUILTY", x.laws(0, 0), 0);
        Tape.row(x, 0, 0, 0, 1, 1);
        due("27: TEXT 0", x.laws(0, 0), 1);
        for (int t = 1; t < 6; t++) {
            Tape.text(x, "feels " + t + ";wears 0;bars 5;");
        }
        due("27: TEXTS 0 and 5", x.laws(0, 0), 0b100001);
        x.force(3);
        due("27: whatever THE LAW is", x.laws(0, 0), 0b100001);
        Tape.row(x, 0, 0, 0, 1, 0);
        due("27: the others", x.laws(0, 0), 0b011110);
        Tape.row(x, 0, 0, 0, 0, 1);
        due("27: none", x.laws(0, 0), 0);
        due("27: THE LAW stays", x.count(3), 3);
    }

    private static void film() {
        PebbleInShoe x = Made.judges(0);
        Made.rounds(x, 10, 20, 99);
        Tape.law(x, "feels 0;wears 1;bars 1-(miles=round);");
        x.image();
        due("28: how many are GUILTY", x.film(0, 0, 10), 2);
        due("28: it would be -1", x.reversed(0, 0), -1);
        due("28: bytes", Made.sort(x, 0), 0);
        due("28: three each", Made.size(x, 0), 9);
        due("28: MILES stay", x.bench(0, 1), 0);
        due("28: SIZE stays", x.told(0, 2), 50);
        int[] want = {0, 10, 1, 1, 10, 1, 2, 10, 0};
        for (int i = 0; i < 9; i++) {
            due("28: number " + i, Made.number(x, 0, i), want[i]);
        }
        due("28: PEBBLES 0 MILES each", x.film(1, 0, 0), 0);
        due("28: it would be -1", x.reversed(1, 0), -1);
        Made.rounds(x, 0, 0, 0);
        Tape.law(x, "feels 0;wears 0;bars 1-(miles=300 or miles=360);");
        due("28: six PEBBLES, 60 MILES each", x.film(2, 0, 60), 2);
        due("28: eighteen numbers", Made.size(x, 2), 18);
        due("28: it would be -1", x.reversed(2, 0), -1);
        Tape.law(x, "feels 0;wears 0;bars 0;");
        due("28: all are GUILTY", x.film(3, 0, 60), 6);
    }

    private static void filmOverRows() {
        PebbleInShoe x = Made.pair(0, 0, 4010);
        x.sheet(0, 2, 40);
        x.film(0, 0, 1);
        due("28: a SHEET of ints becomes bytes", Made.sort(x, 0), 0);
        due("28: as many as are told", Made.size(x, 0), 3);
        Tape.row(x, 1, 0, 7);
        x.film(1, 0, 1);
        due("28: a shorter one", Made.size(x, 1), 3);
        PebbleInShoe none = Made.judges(0);
        due("28: no PEBBLES", none.film(2, 0, 60), 0);
        due("28: a row of none, not missing", none.cell(2, 0, 0), -12);
        due("28: that tells no CASES", none.reversed(2, 0), -1);
    }

    private static void filmRefused() {
        PebbleInShoe x = Made.pair(0, 0, 4010);
        x.sheet(0, 1, 2);
        for (int s : new int[] {-1, 4, LEAST, GREATEST}) {
            due("28: SHEET " + s, x.film(s, 0, 1), -2);
            due("28: ahead of -5, -7", x.film(s, 9, 61), -2);
        }
        for (int j : new int[] {-1, 1, 4, LEAST, GREATEST}) {
            due("28: no such JUDGE " + j, x.film(0, j, 1), -5);
            due("28: ahead of -7", x.film(0, j, 61), -5);
        }
        for (int n : new int[] {-1, 61, LEAST, GREATEST}) {
            due("28: n " + n, x.film(0, 0, n), -7);
        }
        due("28: the SHEET stays", Made.sort(x, 0), 1);
        due("28: the SHEET stays", Made.size(x, 0), 2);
    }

    /** The numbers of a JUDGE and of a PEBBLE are unlike: neither is taken for the other. */
    private static void ofOneOnAnother() {
        PebbleInShoe x = Made.judges(4, 5);
        x.pebble(32, 8050);
        x.pebble(0, 6020);
        x.pebble(13, 9010);
        Tape.law(x, "feels size-round+judge;wears more;bars round+judge+soles;");
        // JUDGE 1: 28 + 27, bars 56; 36 + 36, bars 26; 79 + 76, bars 16. JUDGE 0 begins with 56 + 54, bars 54
        due("28: by 1", x.film(0, 1, 2), 2);
        due("22: by 1", x.reversed(0, 1), -1);
        due("22: by 0", x.reversed(0, 0), 0);
        due("26: whose", x.whose(0), 0b10);
        // of 0 as a PEBBLE 26 + 24, FLINT 28 + 26, SHELL 26 + 22, PEARL 13 + 13, GRIT 29 + 27
        due("23: KINDS of 0 by 1", x.kinds(0, 1, 0, 0), 0b011111);
        // MORE m: 26 + m, and less what wears, m by 2, once more: 52 + 2 m - m / 2
        due("23: MORE of 0 by 1", x.kinds(0, 1, 0, 1), 0b111);
        // SIZE s: 2 s - 105 is below 56
        due("25: SIZES of 0 by 1", x.sizes(0, 1, 0, 0), 81);
        due("25: the least", x.sizes(0, 1, 0, 1), 0);
        // ROUND r: 155 - 2 r is below 6 + r
        due("25: ROUNDS of 0 by 1", x.sizes(0, 1, 0, 10), 50);
        due("25: the least", x.sizes(0, 1, 0, 11), 50);
        // SOLES v of 5 or more: 65 - 2 v is below 51 + v
        due("24: SOLES of 1", x.soled(0, 1), ((1 << 21) - 1) ^ 0b11111);
        due("27: TEXTS by 1", x.laws(0, 1), 0b10);
    }
}
