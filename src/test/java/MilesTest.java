/** Part 2 of the Terms: MILES, CASES, LOTS, AN IMAGE, SHEETS; each sentence that names a boundary. */
final class MilesTest {
    private MilesTest() {
    }

    static void run() {
        bothAreToldAhead();
        notOnSand();
        sizeIsZeroAtLeast();
        painIsFull();
        solesByTens();
        caseOfMiles();
        guiltyBehind();
        milesGoOnInThought();
        lots();
        lotsWearMore();
        mostAndMiles();
        imageKeeps();
        sheets();
        firstRefusalTold();
    }

    private static void due(String what, long got, long want) {
        Check.due("Terms 2: " + what, got, want);
    }

    private static void bothAreToldAhead() {
        // a GRIT with MORE 0 HURTS what the text says
        PebbleInShoe x = Made.pair(0, 50, 2000, "feels size;wears size - 3;bars 1;");
        due("feels is told ahead of the wear", x.walk(0, 0, 1), 20);
        due("wears is told ahead of the wear", x.told(0, 2), 3);
        PebbleInShoe y = Made.pair(0, 50, 5000, "feels miles;wears miles;bars 1;");
        y.shoe(0, 1, 6);
        due("feels is told ahead of the MILE", y.walk(0, 0, 1), 6);
        due("wears is told ahead of the MILE", y.told(0, 2), 44);
        PebbleInShoe z = Made.pair(3, 0, 5000, "feels soles + 20;wears soles;bars 1;");
        z.shoe(0, 1, 9);
        due("SOLES are as ahead of the MILE", z.walk(0, 0, 1), 20);
        due("SOLES are as ahead of the MILE", z.told(0, 2), 47);
        due("SOLES are thicker behind it", z.bench(0, 0), 4);
    }

    private static void notOnSand() {
        PebbleInShoe x = Made.pair(0, 25, 500, "feels 50;wears 1;bars 1;");
        due("SAND isn't FELT", x.walk(0, 0, 1), 0);
        due("SAND gives no PAIN", x.bench(0, 2), 0);
        due("SAND does not wear", x.told(0, 2), 5);
        due("MILES are 1 more in any case", x.bench(0, 1), 1);
        x.walk(0, 0, 9);
        due("SOLES are thicker in any case", x.bench(0, 0), 1);
        x.put(0, 0, 8);
        x.shoe(0, 0, 0);
        due("FELT till it IS SAND: 8, 6", x.walk(0, 0, 5), 100);
        due("SIZE stays as it came to be SAND", x.told(0, 2), 4);
    }

    private static void sizeIsZeroAtLeast() {
        PebbleInShoe x = Made.pair(0, 0, 700, "feels 1;wears 7;bars 1;");
        x.walk(0, 0, 1);
        due("SIZE 7 less 7", x.told(0, 2), 0);
        x.put(0, 0, 6);
        due("a MILE on SIZE 6", x.walk(0, 0, 1), 1);
        due("SIZE 6 less 7", x.told(0, 2), 0);
        x.put(0, 0, 1);
        due("in thought", x.hear(0, 0, 1, 1), 0);
        due("by LOTS", x.drawn(5, 0, 0, 901, 1), 0);
    }

    /** A JUDGE whose PAIN is 9 below the bound, on a GRIT that HURTS what the text says. */
    private static PebbleInShoe nearlyFull() {
        PebbleInShoe x = Made.pair(0, 50, 9900, "feels 99;wears 0;bars 9999;");
        for (int i = 0; i < 16; i++) {
            x.walk(0, 0, 60);
            x.shoe(0, 1, 0);
        }
        x.walk(0, 0, 50);
        due("PAIN of 1010 MILES", x.bench(0, 2), 99990);
        return x;
    }

    private static void painIsFull() {
        PebbleInShoe x = nearlyFull();
        Tape.law(x, "feels 8;wears 0;bars 9999;");
        x.walk(0, 0, 1);
        due("PAIN 99998", x.bench(0, 2), 99998);
        Tape.law(x, "feels 1;wears 0;bars 9999;");
        x.walk(0, 0, 1);
        due("PAIN 99999", x.bench(0, 2), 99999);
        due("FELT all the same", x.walk(0, 0, 3), 3);
        due("PAIN 99999 at most", x.bench(0, 2), 99999);
        PebbleInShoe y = nearlyFull();
        due("FELT beyond the bound", y.walk(0, 0, 2), 198);
        due("PAIN 99999 at most, from 99990", y.bench(0, 2), 99999);
        due("taken so, too", y.taken(6, 6), 99999);
    }

    private static void solesByTens() {
        PebbleInShoe x = Made.pair(18, 0, 0);
        x.walk(0, 0, 0);
        due("no MILE, no thicker", x.bench(0, 0), 18);
        x.walk(0, 0, 9);
        due("9 MILES", x.bench(0, 0), 18);
        x.walk(0, 0, 1);
        due("10 MILES", x.bench(0, 0), 19);
        x.walk(0, 0, 1);
        due("11 MILES", x.bench(0, 0), 19);
        x.walk(0, 0, 9);
        due("20 MILES", x.bench(0, 0), 20);
        x.walk(0, 0, 10);
        due("30 MILES: 20 at most", x.bench(0, 0), 20);
        x.shoe(0, 0, 2);
        x.shoe(0, 1, 50);
        x.walk(0, 0, 1);
        due("from 50 to 51", x.bench(0, 0), 2);
        x.shoe(0, 1, 59);
        x.walk(0, 0, 60);
        due("60, 70, 80, 90, 100, 110", x.bench(0, 0), 8);
        x.shoe(0, 1, 980);
        x.walk(0, 0, 19);
        due("990", x.bench(0, 0), 9);
    }

    private static void caseOfMiles() {
        PebbleInShoe x = Made.pair(0, 50, 9900, "feels 7;wears 1;bars 1;");
        due("0 MILES", x.hear(0, 0, 0, 0), 0);
        due("1 MILE", x.hear(0, 0, 1, 0), 7);
        due("60 MILES, together", x.hear(0, 0, 60, 0), 420);
        due("61 are no CASE", x.hear(0, 0, 61, 0), -7);
        due("-1 are no CASE", x.hear(0, 0, -1, 0), -7);
        due("60 MILES, truly", x.walk(0, 0, 60), 420);
        due("SIZE behind", x.told(0, 2), 39);
    }

    private static void guiltyBehind() {
        PebbleInShoe x = Made.pair(0, 50, 9900, "feels 7;wears 1;bars 14;");
        due("FELT 7, bars 14", x.hear(0, 0, 1, 2), 0);
        due("no less than bars", x.hear(0, 0, 2, 2), 1);
        due("more than bars", x.hear(0, 0, 3, 2), 1);
        Tape.law(x, "feels 7;wears 1;bars 15;");
        due("FELT 14, bars 15", x.hear(0, 0, 2, 2), 0);
        Tape.law(x, "feels 7;wears 1;bars 0;");
        due("FELT 0, bars 0", x.hear(0, 0, 0, 2), 1);
        Tape.law(x, "feels 7;wears 1;bars 1;");
        due("FELT 0, bars 1", x.hear(0, 0, 0, 2), 0);
        PebbleInShoe worn = Made.pair(0, 50, 9900, "feels 7;wears 1;bars 7*(size=98);");
        due("bars by SIZE behind, 7", worn.hear(0, 0, 1, 2), 1);
        Tape.law(worn, "feels 7;wears 1;bars 8*(size=98);");
        due("bars by SIZE behind, 8", worn.hear(0, 0, 1, 2), 0);
        PebbleInShoe y = Made.pair(0, 50, 9900, "feels 7;wears 1;bars 99*(miles=10 and soles=1);");
        y.shoe(0, 1, 9);
        due("bars by MILES and SOLES behind", y.hear(0, 0, 1, 2), 0);
        due("and ahead", y.hear(0, 0, 0, 2), 1);
    }

    private static void milesGoOnInThought() {
        PebbleInShoe x = Made.pair(0, 50, 9900, "feels 9*(999<miles);wears 0;bars 1;");
        x.shoe(0, 1, 999);
        due("MILE 1000", x.hear(0, 0, 1, 0), 0);
        due("MILES behind 1000", x.hear(0, 0, 60, 0), 9 * 59);
        due("SOLES by MILES 1000, 1010, .. 1050", x.hear(0, 0, 60, 3), 6);
        due("fewest above 999", x.fewest(0, 0), 2);
        due("not truly", x.walk(0, 0, 1), -4);
        due("ahead again", x.bench(0, 1), 999);
        x.pebble(50, 9900);
        due("order above 999", x.order(0, 60, 1), 9 * 119);
        due("counsel above 999", x.counsel(0, 60, 0), 2);
        due("by LOTS above 999", x.drawn(0, 0, 0, 3, 0), 18);
    }

    private static void lots() {
        // by SEED 0: 48271, 182605794, 1291394886, 1914720637, 2078669041, 407355683
        PebbleInShoe x = Made.pair(0, 0, 9900, "feels 0;wears 0;bars 1;");
        int[] byTens = {1, 4, 6, 7, 1, 3};
        int[] byThrees = {48271 % 3, 182605794 % 3, 1291394886 % 3, 1914720637 % 3, 2078669041 % 3, 407355683 % 3};
        int tens = 99;
        int threes = 99;
        for (int n = 1; n <= 6; n++) {
            tens -= byTens[n - 1];
            threes -= byThrees[n - 1];
            due("SIZE by LOTS modulo 10", x.drawn(0, 0, 0, 900 + n, 1), tens);
            due("SIZE by LOTS modulo 3", x.drawn(0, 0, 0, 200 + n, 1), threes);
        }
        // by SEED 99999: 532132706, 525949559, 559487655, 274249833
        due("the last SEED", x.drawn(99999, 0, 0, 901, 1), 93);
        due("the last SEED, further", x.drawn(99999, 0, 0, 904, 1), 99 - 6 - 9 - 5 - 3);
        due("SEED 1", x.drawn(1, 0, 0, 902, 1), 99 - 2 - 8);
        due("SEED -1", x.drawn(-1, 0, 0, 901, 1), -7);
        due("SEED 100000", x.drawn(100000, 0, 0, 901, 1), -7);
    }

    private static void lotsWearMore() {
        // by SEED 0 modulo 10: 1, 4
        PebbleInShoe shell = Made.pair(0, 20, 9900, "feels 0;wears 3;bars 1;");
        due("more than twice 3", shell.drawn(0, 0, 0, 902, 1), 99 - 7 - 10);
        PebbleInShoe shard = Made.pair(0, 30, 9900, "feels 0;wears 3;bars 1;");
        due("more than half of 3", shard.drawn(0, 0, 0, 902, 1), 99 - 2 - 5);
        PebbleInShoe pearl = Made.pair(0, 40, 9900, "feels 0;wears 5;bars 1;");
        due("more than 0", pearl.drawn(0, 0, 0, 902, 1), 99 - 1 - 4);
        PebbleInShoe sand = Made.pair(0, 25, 500, "feels 9;wears 3;bars 1;");
        due("unless it IS SAND", sand.drawn(0, 0, 0, 960, 1), 5);
        due("unless it IS SAND: FELT", sand.drawn(0, 0, 0, 960, 0), 0);
        sand.put(0, 0, 6);
        due("till it IS SAND", sand.drawn(0, 0, 0, 960, 1), 0);
        due("till it IS SAND: FELT", sand.drawn(0, 0, 0, 960, 0), 9);
        PebbleInShoe plain = Made.pair(0, 0, 9900);
        due("most 0: as without", plain.drawn(77, 0, 0, 9, 1), plain.hear(0, 0, 9, 1));
        due("in thought", plain.told(0, 2), 99);
        due("in thought", plain.bench(0, 1) + plain.bench(0, 2), 0);
    }

    private static void mostAndMiles() {
        PebbleInShoe x = Made.pair(0, 50, 9900, "feels 1;wears 0;bars 1;");
        due("most 0, 0 MILES", x.drawn(0, 0, 0, 0, 0), 0);
        due("most 0, 60 MILES", x.drawn(0, 0, 0, 60, 0), 60);
        due("most 9, 0 MILES", x.drawn(0, 0, 0, 900, 0), 0);
        due("most 9, 60 MILES", x.drawn(0, 0, 0, 960, 0) > 0 ? 1 : 0, 1);
        int[] none = {-1, 61, 99, 161, 199, 860 + 1, 961, 999, 1000, 1060, Integer.MIN_VALUE, Integer.MAX_VALUE};
        for (int v : none) {
            due("moreMiles " + v, x.drawn(0, 0, 0, v, 0), -7);
            due("moreMiles " + v, x.odds(0, 1, 0, 0, v, 0), PebbleInShoe.NO);
        }
        due("moreMiles 100", x.drawn(0, 0, 0, 100, 0), 0);
        due("moreMiles 160", x.odds(0, 1, 0, 0, 160, 0), 1);
    }

    private static void imageKeeps() {
        PebbleInShoe x = Made.judges(1, 2, 3, 4);
        for (int p = 0; p < 6; p++) {
            x.pebble(10 * p + p, 5000 + 101 * p);
        }
        for (int j = 0; j < 4; j++) {
            x.walk(j, j, 2 + j);
        }
        String ahead = state(x);
        x.image();
        for (int j = 0; j < 4; j++) {
            x.walk(j, 5, 11);
            x.shoe(j, 0, 9);
        }
        for (int p = 0; p < 6; p++) {
            x.put(p, 0, 90);
            x.put(p, 1, 80);
        }
        Tape.law(x, "feels 1;wears 1;bars 1;");
        due("all is otherwise", ahead.equals(state(x)) ? 1 : 0, 0);
        due("back", x.back(), 6);
        Check.holds("Terms 2: SOLES, MILES, PAIN of all JUDGES, SIZES, ROUNDS of all PEBBLES, THE LAW",
            ahead.equals(state(x)));
    }

    /** All JUDGES, all PEBBLES, THE LAW. */
    static String state(PebbleInShoe x) {
        StringBuilder told = new StringBuilder("law " + x.count(3));
        for (int j = 0; j < 4; j++) {
            told.append("; judge ").append(x.bench(j, 0)).append(' ').append(x.bench(j, 1));
            told.append(' ').append(x.bench(j, 2));
        }
        for (int p = 0; p < 6; p++) {
            told.append("; pebble");
            for (int what = 0; what < 5; what++) {
                told.append(' ').append(x.told(p, what));
            }
        }
        return told.toString();
    }

    private static void sheets() {
        PebbleInShoe x = new PebbleInShoe();
        for (int s = 0; s < 4; s++) {
            due("SHEET " + s + " is missing at first", x.cell(s, 0, 0), -11);
            due("SHEET " + s + " of 40", x.sheet(s, s % 3, 40), 1);
            due("its sort", Made.sort(x, s), s % 3);
            due("its size", Made.size(x, s), 40);
        }
        due("SHEET 4", x.sheet(4, 0, 1), -2);
        due("SHEET -1", x.sheet(-1, 0, 1), -2);
        due("41", x.sheet(0, 0, 41), -2);
        due("it stays", Made.size(x, 0), 40);
    }

    private static void firstRefusalTold() {
        PebbleInShoe full = Made.judges(0, 0, 0, 0);
        due("BAD ahead of FULL", full.judge(21), -2);
        due("-5 ahead of -7", full.shoe(4, 9, -1), -5);
        full.pebble(0, 0);
        full.shoe(0, 1, 999);
        due("-5 ahead of -7, FULL", full.walk(4, 0, 61), -5);
        due("-7 ahead of FULL", full.walk(0, 0, 61), -7);
        due("BAD ahead of -11", full.reversed(4, 9), -2);
        due("-11 ahead of -5", full.reversed(0, 9), -11);
        full.sheet(0, 0, 1);
        due("BAD ahead of -5", full.reversed(0, 9), -2);
        due("-11 ahead of -13", full.copy(0, 9, 1, 9, -1), -11);
        full.sheet(1, 1, 1);
        due("-13 ahead of -12", full.copy(0, 9, 1, 9, -1), -13);
        due("BAD ahead of -14", full.sheet(0, 3, -1), -2);
        due("BAD ahead of -12", full.taken(10, 7), -2);
    }
}
