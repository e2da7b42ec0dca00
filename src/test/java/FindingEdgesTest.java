/** Promises 15 to 21: each sentence that names a boundary, by a test of its own. */
final class FindingEdgesTest {
    private static final int LEAST = Integer.MIN_VALUE;
    private static final int GREATEST = Integer.MAX_VALUE;
    /** Nothing is FELT, so GUILTY is a CASE behind which bars are 0: MILES are as ROUND then, or are not. */
    private static final String GUILTY_IN_TIME = "feels 0;wears 0;bars 1-(miles=round);";
    private static final String INNOCENT_IN_TIME = "feels 0;wears 0;bars miles=round;";

    private FindingEdgesTest() {
    }

    static void run() {
        fewest();
        fewestAsItWears();
        sand();
        unlike();
        unlikeRefused();
        hardest();
        hardestAsItIsNow();
        hardestOfAllPebbles();
        hardestOfNone();
        thick();
        thickRefused();
        orderOfNone();
        orderOfSix();
        orderOfLikeOnes();
        orderRefused();
        counselOfFew();
        counselByTurns();
        counselRefused();
        ofFewerThanBefore();
        ofNoneBehindBack();
        ofTheLastOnes();
        ofOneOnAnother();
    }

    private static void due(String what, long got, long want) {
        Check.due(what, got, want);
    }

    /** What a GRIT with MORE 0 HURTS is what the text says. */
    private static PebbleInShoe grit(String law) {
        return Made.pair(0, 50, 9900, law);
    }

    private static void fewest() {
        due("15: n 0", grit("feels 1;wears 0;bars 0;").fewest(0, 0), 0);
        due("15: n 1", grit("feels 1;wears 0;bars 1;").fewest(0, 0), 1);
        due("15: n 60", grit("feels 1;wears 0;bars 60;").fewest(0, 0), 60);
        due("15: none", grit("feels 1;wears 0;bars 61;").fewest(0, 0), -1);
        due("15: the least, not GUILTY later", grit("feels 1;wears 0;bars 1+999*(3<miles);").fewest(0, 0), 1);
        due("15: by one n alone", grit("feels 1;wears 0;bars 1000*(1-(miles=7));").fewest(0, 0), 7);
        due("15: by the last n alone", grit("feels 1;wears 0;bars 1000*(1-(miles=60));").fewest(0, 0), 60);
        due("15: one n too late", grit("feels 1;wears 0;bars 1000*(1-(miles=61));").fewest(0, 0), -1);
        PebbleInShoe x = grit("feels 1;wears 1;bars 5;");
        due("15: in thought", x.fewest(0, 0), 5);
        due("15: in thought", x.told(0, 2) + x.bench(0, 1) + x.bench(0, 2), 99);
        for (int v : new int[] {-1, 1, LEAST, GREATEST}) {
            due("15: no such JUDGE " + v, x.fewest(v, 0), -5);
            due("15: no such PEBBLE " + v, x.fewest(0, v), -5);
        }
    }

    private static void fewestAsItWears() {
        // 10, 9, 8, 7 are FELT
        PebbleInShoe x = Made.pair(0, 50, 1000, "feels size;wears 1;bars 27;");
        due("15: 27 in three", x.fewest(0, 0), 3);
        Tape.law(x, "feels size;wears 1;bars 28;");
        due("15: 28 in four", x.fewest(0, 0), 4);
        Tape.law(x, "feels 0;wears 1;bars 1-(size=6);");
        due("15: bars told behind", x.fewest(0, 0), 4);
        x.judge(0);
        Tape.law(x, "feels size;wears 1;bars 28+judge;");
        due("17: 28 and 29 are alike in four", x.unlike(0, 1, 0), -1);
        Tape.law(x, "feels size;wears 1;bars 28-judge;");
        due("17: 28 and 27 are unlike in three", x.unlike(0, 1, 0), 3);
    }

    private static void sand() {
        PebbleInShoe x = Made.pair(0, 0, 0);
        due("16: it IS SAND now", x.sand(0, 0), 0);
        x.put(0, 0, 1);
        due("16: behind one", x.sand(0, 0), 1);
        x.put(0, 0, 60);
        due("16: behind 60", x.sand(0, 0), 60);
        x.put(0, 0, 61);
        due("16: none", x.sand(0, 0), -1);
        due("16: in thought", x.told(0, 2) + x.bench(0, 1), 61);
        for (int v : new int[] {-1, 1, LEAST, GREATEST}) {
            due("16: no such JUDGE " + v, x.sand(v, 0), -5);
            due("16: no such PEBBLE " + v, x.sand(0, v), -5);
        }
        due("16: a SHELL of 9, MORE 4", Made.pair(0, 24, 900).sand(0, 0), 3);
        due("16: a GRIT of 9", Made.pair(0, 50, 900).sand(0, 0), 5);
        due("16: a PEARL, never", Made.pair(0, 40, 100).sand(0, 0), -1);
        due("16: a PEARL that IS SAND", Made.pair(0, 41, 100).sand(0, 0), 0);
        due("16: by the last MILE", Made.pair(0, 0, 100, "feels 0;wears miles=59;bars 1;").sand(0, 0), 60);
        due("16: a MILE too late", Made.pair(0, 0, 100, "feels 0;wears miles=60;bars 1;").sand(0, 0), -1);
    }

    private static PebbleInShoe two(String law) {
        PebbleInShoe x = Made.judges(0, 0);
        x.pebble(50, 900);
        Tape.law(x, law);
        return x;
    }

    private static void unlike() {
        due("17: n 0", two("feels 0;wears 0;bars judge;").unlike(0, 1, 0), 0);
        due("17: the other way", two("feels 0;wears 0;bars judge;").unlike(1, 0, 0), 0);
        due("17: by the other, not by the one", two("feels 0;wears 0;bars 1-judge;").unlike(0, 1, 0), 0);
        due("17: n 60", two("feels judge;wears 0;bars 60;").unlike(0, 1, 0), 60);
        due("17: none", two("feels judge;wears 0;bars 61;").unlike(0, 1, 0), -1);
        due("17: the least, alike later", two("feels 2-judge;wears 0;bars 4;").unlike(0, 1, 0), 2);
        due("17: both GUILTY are alike", two("feels 0;wears 0;bars 0;").unlike(0, 1, 0), -1);
        // the PEBBLE as it is now, each: in two MILES all its SIZE is worn
        due("17: not as the one wore it", two("feels size;wears 3;bars 9;").unlike(0, 1, 0), -1);
        PebbleInShoe x = Made.judges(0, 11);
        x.pebble(0, 4000);
        due("17: by SOLES: 40 and 29", x.unlike(0, 1, 0), 1);
        due("17: in thought", x.told(0, 2) + x.bench(0, 1) + x.bench(1, 1), 40);
    }

    private static void unlikeRefused() {
        PebbleInShoe x = two("feels 0;wears 0;bars judge;");
        for (int v : new int[] {-1, 2, LEAST, GREATEST}) {
            due("17: no such JUDGE " + v, x.unlike(v, 0, 0), -5);
            due("17: no such other JUDGE " + v, x.unlike(0, v, 0), -5);
            due("17: both are none", x.unlike(v, v, 0), -5);
        }
        for (int p : new int[] {-1, 1, LEAST, GREATEST}) {
            due("17: no such PEBBLE " + p, x.unlike(0, 1, p), -5);
        }
        due("17: one and the same", x.unlike(0, 0, 0), -5);
        due("17: one and the same", x.unlike(1, 1, 0), -5);
    }

    private static void hardest() {
        PebbleInShoe x = Made.judges(0, 0, 0, 0);
        for (int p = 0; p < 6; p++) {
            x.pebble(50 + p, 9900);
        }
        Tape.law(x, "feels 0;wears 0;bars judge*judge<3+more;");
        // bars are 0 where more is no more than judge * judge - 3: by 0, 0, 2, 6 of six
        due("18: the last is hardest", x.hardest(0, 0), 3);
        due("18: how many", x.hardest(0, 1), 6);
        Tape.law(x, "feels 0;wears 0;bars 1-(judge=1 or judge=3)*(more<2);");
        due("18: of like ones the first", x.hardest(0, 0), 1);
        due("18: how many", x.hardest(0, 1), 2);
        Tape.law(x, "feels 0;wears 0;bars 1;");
        due("18: by none", x.hardest(0, 0), 0);
        due("18: by none, how many", x.hardest(0, 1), 0);
        Tape.law(x, "feels 0;wears 0;bars 1-(miles=60 and judge=2);");
        due("18: n 60", x.hardest(60, 0), 2);
        due("18: n 60, how many", x.hardest(60, 1), 6);
        due("18: n 59", x.hardest(59, 1), 0);
        due("18: in thought", x.bench(2, 1), 0);
    }

    private static void hardestAsItIsNow() {
        PebbleInShoe x = Made.judges(0, 0);
        for (int p = 0; p < 3; p++) {
            x.pebble(50, 1000);
        }
        // a second CASE of a JUDGE, or a second JUDGE on the same, would find nothing
        Tape.law(x, "feels (1+judge)*(miles=0);wears 20;bars 2;");
        due("18: MILES, SIZES as they are now", x.hardest(1, 0), 1);
        due("18: each CASE", x.hardest(1, 1), 3);
        Tape.law(x, "feels 2-judge;wears 20;bars 2;");
        due("18: the first is hardest", x.hardest(1, 0), 0);
        due("18: each CASE", x.hardest(1, 1), 3);
    }

    private static void hardestOfAllPebbles() {
        PebbleInShoe x = Made.judges(20, 0);
        x.pebble(0, 3000);
        x.pebble(0, 0);
        x.pebble(0, 3000);
        due("18: 1, by the first and the last PEBBLE", x.hardest(1, 0), 1);
        due("18: not by SAND", x.hardest(1, 1), 2);
    }

    private static void hardestOfNone() {
        PebbleInShoe x = new PebbleInShoe();
        x.pebble(0, 4010);
        for (int n = 0; n <= 60; n += 60) {
            due("18: there are no JUDGES", x.hardest(n, 0), -1);
            due("18: there are no JUDGES, how many", x.hardest(n, 1), -1);
        }
        PebbleInShoe y = Made.judges(20, 0);
        due("18: no PEBBLES", y.hardest(5, 0), 0);
        due("18: no PEBBLES, how many", y.hardest(5, 1), 0);
        for (int v : new int[] {-1, 61, LEAST, GREATEST}) {
            due("18: n " + v, y.hardest(v, 0), -2);
            due("18: n " + v + " without JUDGES", x.hardest(v, 0), -2);
        }
        for (int v : new int[] {-1, 2, LEAST, GREATEST}) {
            due("18: what " + v, y.hardest(0, v), -2);
            due("18: what " + v + " without JUDGES", x.hardest(0, v), -2);
        }
    }

    private static void thick() {
        PebbleInShoe x = Made.pair(7, 0, 9900, "feels 30;wears 0;bars 30;");
        due("19: SOLES 1", x.thick(0, 0, 1), 1);
        due("19: SOLES 0", x.thick(0, 0, 0), 0);
        Tape.law(x, "feels 30;wears 0;bars 11;");
        due("19: SOLES 20", x.thick(0, 0, 1), 20);
        Tape.law(x, "feels 30;wears 0;bars 10;");
        due("19: none", x.thick(0, 0, 1), -1);
        Tape.law(x, "feels 0;wears 0;bars soles=13;");
        due("19: SOLES as they are behind", x.thick(0, 0, 0), 13);
        x.shoe(0, 1, 9);
        due("19: SOLES that grow", x.thick(0, 0, 1), 12);
        Tape.law(x, "feels 0;wears 0;bars soles<3;");
        due("19: the least, GUILTY by thicker ones", x.thick(0, 0, 0), 0);
        due("19: in thought", x.bench(0, 0), 7);
        due("19: in thought", x.bench(0, 1), 9);
        PebbleInShoe y = Made.pair(7, 0, 9900, "feels 0;wears 0;bars miles=60;");
        due("19: n 60", y.thick(0, 0, 60), 0);
        due("19: n 59", y.thick(0, 0, 59), -1);
    }

    private static void thickRefused() {
        PebbleInShoe x = Made.pair(7, 0, 9900);
        for (int v : new int[] {-1, 1, LEAST, GREATEST}) {
            due("19: no such JUDGE " + v, x.thick(v, 0, 1), -5);
            due("19: no such PEBBLE " + v, x.thick(0, v, 1), -5);
            due("19: ahead of n", x.thick(v, v, 61), -5);
        }
        for (int n : new int[] {-1, 61, LEAST, GREATEST}) {
            due("19: n " + n, x.thick(0, 0, n), -7);
        }
    }

    private static void orderOfNone() {
        PebbleInShoe x = Made.judges(0);
        for (int goal = 0; goal <= 10; goal += 10) {
            due("20: no PEBBLES", x.order(0, 60, goal), -1);
            due("20: no PEBBLES, that", x.order(0, 60, goal + 1), 0);
        }
        x.pebble(50, 9900);
        Tape.law(x, "feels 3;wears 0;bars 1;");
        due("20: one PEBBLE", x.order(0, 60, 0), 1);
        due("20: one PEBBLE, FELT", x.order(0, 60, 1), 180);
        due("20: one PEBBLE", x.order(0, 60, 10), 1);
        due("20: one PEBBLE, GUILTY", x.order(0, 60, 11), 1);
    }

    private static void orderOfSix() {
        PebbleInShoe x = Made.judges(0);
        Made.rounds(x, 60, 50, 40, 30, 20, 10);
        Tape.law(x, INNOCENT_IN_TIME);
        due("20: GUILTY by no other order", x.order(0, 10, 10), 654321);
        due("20: none is", x.order(0, 10, 11), 0);
        due("20: all are, n 0", x.order(0, 0, 11), 6);
        due("20: of like ones the first, n 0", x.order(0, 0, 10), 123456);
        due("20: FELT 0 by all", x.order(0, 10, 0), 123456);
        Tape.law(x, "feels 99;wears 0;bars 1;");
        // 99 less SOLES, which are 1 more each 10 of 360 MILES till they are 20
        due("20: FELT in all, n 60", x.order(0, 60, 1), 360 * 99 - 10 * 190 - 160 * 20);
        due("20: of like ones the first, n 60", x.order(0, 60, 0), 123456);
        PebbleInShoe y = Made.judges(0);
        for (int p = 0; p < 6; p++) {
            y.pebble(50, 5060 - 10 * p);
        }
        Tape.law(y, "feels 1-(miles<round and round<miles+11);wears 0;bars 1;");
        due("20: FELT by no other order", y.order(0, 10, 0), 654321);
        due("20: nothing is", y.order(0, 10, 1), 0);
        due("20: in thought", y.bench(0, 1), 0);
    }

    private static void orderOfLikeOnes() {
        PebbleInShoe x = Made.judges(0);
        Made.rounds(x, 20, 10, 10);
        Tape.law(x, INNOCENT_IN_TIME);
        // 213 and 312: one in time, then the 20, then one too late
        due("20: of like ones the first", x.order(0, 10, 10), 213);
        due("20: how many are", x.order(0, 10, 11), 1);
        PebbleInShoe y = Made.judges(0);
        Made.rounds(y, 10, 20, 20, 10);
        Tape.law(y, INNOCENT_IN_TIME);
        due("20: of like ones the first", y.order(0, 10, 10), 1234);
        due("20: how many are", y.order(0, 10, 11), 2);
        PebbleInShoe z = Made.judges(0);
        z.pebble(59, 9900);
        z.pebble(0, 9900);
        z.pebble(0, 9900);
        z.pebble(59, 9900);
        Tape.law(z, "feels 50;wears 0;bars 1;");
        // by SOLES 0 to 3 a GRIT HURTS 50, 48, 46, 44, a PEBBLE 50, 49, 48, 47
        due("20: of like ones the first", z.order(0, 10, 0), 2314);
        due("20: FELT in all", z.order(0, 10, 1), 10 * (50 + 49 + 46 + 44));
    }

    private static void orderRefused() {
        PebbleInShoe x = Made.judges(0);
        for (int v : new int[] {-1, 1, LEAST, GREATEST}) {
            due("20: no such JUDGE " + v, x.order(v, 1, 0), -5);
            due("20: ahead of n, goalWhat", x.order(v, 61, 2), -5);
        }
        Made.rounds(x, 1, 2);
        for (int n : new int[] {-1, 61, LEAST, GREATEST}) {
            due("20: n " + n, x.order(0, n, 0), -7);
        }
        for (int v : new int[] {-1, -10, 2, 9, 12, 19, 20, 21, 100, 101, 110, LEAST, GREATEST}) {
            due("20: goalWhat " + v, x.order(0, 1, v), -7);
        }
    }

    private static void counselDue(int[] rounds, int guilty, int first) {
        PebbleInShoe x = Made.judges(0);
        Made.rounds(x, rounds);
        Tape.law(x, GUILTY_IN_TIME);
        String told = "21: of " + rounds.length + " that begin with " + (rounds.length > 0 ? rounds[0] : 0);
        due(told + ", GUILTY", x.counsel(0, 10, 0), guilty);
        due(told + ", chosen first", x.counsel(0, 10, 1), first);
        due(told + ", in thought", x.bench(0, 1), 0);
    }

    private static void counselOfFew() {
        counselDue(new int[] {}, 0, -1);
        counselDue(new int[] {10}, 1, 0);
        counselDue(new int[] {20}, 0, 0);
        counselDue(new int[] {10, 20}, 2, 0);
        counselDue(new int[] {20, 10}, 2, 1);
        // of like ones the first
        counselDue(new int[] {20, 20}, 1, 0);
        counselDue(new int[] {10, 10}, 1, 0);
    }

    private static void counselByTurns() {
        // the other lets the 20 pass its time
        counselDue(new int[] {10, 20, 0}, 1, 0);
        counselDue(new int[] {0, 10, 20}, 1, 1);
        // the other must take one at 20
        counselDue(new int[] {0, 20, 20}, 1, 0);
        counselDue(new int[] {20, 20, 20}, 1, 0);
        // the one wants two that fit his second turn, and must not take one ahead
        counselDue(new int[] {30, 30, 0, 0}, 1, 2);
        // at 40 the other chooses again
        counselDue(new int[] {40, 40, 0, 0, 0}, 0, 0);
        counselDue(new int[] {40, 40, 40, 0, 0}, 1, 3);
        // at 10 the one, at 60 who is left
        counselDue(new int[] {60, 60, 60, 60, 60, 60}, 1, 0);
        counselDue(new int[] {60, 60, 60, 60, 60, 10}, 2, 5);
        PebbleInShoe x = Made.judges(0);
        Made.rounds(x, 1, 2, 3, 4, 5, 6);
        Tape.law(x, "feels 0;wears 0;bars miles;");
        due("21: n 0, all are", x.counsel(0, 0, 0), 6);
        due("21: n 0, of like ones the first", x.counsel(0, 0, 1), 0);
        Tape.law(x, "feels 0;wears 0;bars 1-(miles=60);");
        due("21: n 60", x.counsel(0, 60, 0), 1);
    }

    private static void counselRefused() {
        PebbleInShoe x = Made.judges(0);
        for (int v : new int[] {-1, 1, LEAST, GREATEST}) {
            due("21: no such JUDGE " + v, x.counsel(v, 1, 0), -5);
            due("21: ahead of n, what", x.counsel(v, 61, 2), -5);
        }
        Made.rounds(x, 1, 2);
        for (int n : new int[] {-1, 61, LEAST, GREATEST}) {
            due("21: n " + n, x.counsel(0, n, 0), -7);
        }
        for (int v : new int[] {-1, 2, 10, LEAST, GREATEST}) {
            due("21: what " + v, x.counsel(0, 1, v), -7);
        }
    }

    /** PEBBLES that came since THE IMAGE are none: what was found with them is of no matter. */
    private static void ofFewerThanBefore() {
        PebbleInShoe x = Made.judges(0);
        Tape.law(x, "feels 9;wears 0;bars 1;");
        for (int p = 0; p < 6; p++) {
            x.image();
            x.pebble(50, 9900);
            x.pebble(50, 9900);
            x.order(0, 10, 1);
            x.counsel(0, 10, 0);
            x.hear(0, p, 1, 0);
            due("20: PEBBLES behind back()", x.back(), p);
            int digits = 0;
            for (int i = 1; i <= p; i++) {
                digits = 10 * digits + i;
            }
            due("20: the order of " + p, x.order(0, 10, 0), p == 0 ? -1 : digits);
            due("20: FELT by " + p, x.order(0, 10, 1), 90 * p);
            due("20: GUILTY of " + p, x.order(0, 10, 11), p);
            due("21: GUILTY of " + p, x.counsel(0, 10, 0), p);
            due("21: chosen first of " + p, x.counsel(0, 10, 1), p == 0 ? -1 : 0);
            due("18: GUILTY of " + p, x.hardest(10, 1), p);
            due("28: GUILTY of " + p, x.film(0, 0, 10), p);
            x.pebble(50, 9900);
        }
    }

    /** Of those that came since THE IMAGE nothing was FELT: no choice is left of them. */
    private static void ofNoneBehindBack() {
        PebbleInShoe x = Made.judges(0);
        x.image();
        Made.rounds(x, 1, 2, 3);
        Tape.law(x, "feels 0;wears 0;bars 1;");
        due("20: the order of three", x.order(0, 10, 0), 123);
        due("21: chosen first of three", x.counsel(0, 10, 1), 0);
        x.back();
        due("20: no PEBBLES behind back()", x.order(0, 10, 0), -1);
        due("20: no PEBBLES behind back(), GUILTY", x.order(0, 10, 10), -1);
        due("21: there are none behind back()", x.counsel(0, 10, 1), -1);
    }

    /** The fourth JUDGE and the sixth PEBBLE are thought of as the others are. */
    private static void ofTheLastOnes() {
        PebbleInShoe x = Made.judges(0, 0, 0, 6);
        Made.rounds(x, 0, 0, 0, 0, 0);
        x.pebble(57, 6010);
        x.shoe(3, 1, 8);
        // by SOLES 6: 50 - 42 / 4, 49 - 42 / 4; by SOLES 7: 48 - 49 / 4
        due("14: FELT by the last on the last", x.hear(3, 5, 3, 0), 40 + 39 + 36);
        due("14: SOLES of the last", x.hear(3, 5, 3, 3), 7);
        due("14: SIZE of the last", x.hear(3, 5, 3, 1), 57);
        due("15: by the last on the last", x.fewest(3, 5), 1);
        due("16: a GRIT of 60", x.sand(3, 5), 56);
        due("29: by LOTS", x.drawn(0, 3, 5, 3, 0), 40 + 39 + 36);
        x.walk(3, 5, 2);
        x.image();
        x.walk(3, 5, 2);
        x.put(5, 1, 99);
        x.back();
        due("32: MILES of the last", x.bench(3, 1), 10);
        due("32: PAIN of the last", x.bench(3, 2), 79);
        due("32: SIZE of the last", x.told(5, 2), 58);
        due("32: ROUND of the last", x.told(5, 3), 10);
    }

    /** The numbers of a JUDGE and of a PEBBLE are unlike: neither is taken for the other. */
    private static void ofOneOnAnother() {
        PebbleInShoe x = Made.judges(4, 5);
        x.pebble(32, 8050);
        x.pebble(0, 6020);
        x.pebble(13, 9010);
        Tape.law(x, "feels size-round+judge;wears more;bars round+judge+soles;");
        // JUDGE 1 on the SHARD: 31 - 5 + 2, 30 - 5 + 2, 29 - 5 + 2; bars are 56. JUDGE 0: 2 * 28; bars are 54
        due("14: FELT by 1 on 0", x.hear(1, 0, 2, 0), 28 + 27);
        due("14: SIZE of 0 by 1", x.hear(1, 0, 2, 1), 78);
        due("14: by 1 on 0", x.hear(1, 0, 2, 2), 0);
        due("14: by 1 on 0, three MILES", x.hear(1, 0, 3, 2), 1);
        due("14: by 0 on 0", x.hear(0, 0, 1, 2), 1);
        due("14: FELT by 0 on 1", x.hear(0, 1, 2, 0), 36 + 36);
        due("14: FELT by 1 on 2", x.hear(1, 2, 2, 0), 79 + 76);
        due("15: by 1 on 0", x.fewest(1, 0), 3);
        due("15: by 0 on 0", x.fewest(0, 0), 1);
        due("16: 2 by 1", x.sand(1, 2), 30);
        due("17: on 0", x.unlike(0, 1, 0), 1);
        due("18: how many in two MILES", x.hardest(2, 1), 3);
        due("18: by whom", x.hardest(2, 0), 0);
        // by SOLES v of 5 or more, 65 - 2 v is FELT, bars are 51 + v
        due("19: by 1 on 0", x.thick(1, 0, 2), 5);
        // LOTS are 1, 4: 31 - 3, then 29 - 3 are FELT
        due("29: FELT by 1 on 0", x.drawn(0, 1, 0, 902, 0), 28 + 26);
        due("29: SIZE of 0 by 1", x.drawn(0, 1, 0, 902, 1), 73);
        due("29: by 1 on 0", x.drawn(0, 1, 0, 902, 2), 0);
        due("29: by 1 on 0, three MILES", x.drawn(0, 1, 0, 903, 2), 1);
        due("30: by 1 on 0", x.odds(0, 1, 1, 0, 902, 0), 0);
        due("30: by 1 on 0, three MILES", x.odds(0, 1, 1, 0, 903, 0), 1);
        due("13: FELT by 1 on 0", x.walk(1, 0, 2), 55);
        due("13: PAIN of 1", x.bench(1, 2), 55);
        due("13: PAIN of 0", x.bench(0, 2), 0);
        due("13: SIZE of 0", x.told(0, 2), 78);
        due("13: SIZE of 1", x.told(1, 2), 60);
    }
}
