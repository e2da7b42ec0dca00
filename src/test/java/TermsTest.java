/** Part 1 of the Terms: each sentence that names a boundary, by a test of its own. Tokens and faults: TextEdgesTest. */
final class TermsTest {
    private TermsTest() {
    }

    static void run() {
        judges();
        pebbles();
        pebble();
        flint();
        shell();
        shard();
        pearl();
        grit();
        textsAsTheyAreByThen();
        theLawAtFirst();
    }

    private static void due(String what, long got, long want) {
        Check.due("Terms 1: " + what, got, want);
    }

    private static void judges() {
        PebbleInShoe x = new PebbleInShoe();
        for (int j = 0; j < 4; j++) {
            due("JUDGES from 0 on", x.judge(20 - j), j);
        }
        due("4 at most", x.judge(0), -4);
        due("4 at most", x.count(1), 4);
        due("SOLES 20", x.bench(0, 0), 20);
        due("SOLES 17", x.bench(3, 0), 17);
        for (int j = 0; j < 4; j++) {
            due("MILES 0 as one comes", x.bench(j, 1), 0);
            due("PAIN 0 as one comes", x.bench(j, 2), 0);
        }
        PebbleInShoe y = Made.judges(1);
        y.image();
        y.judge(2);
        y.pebble(0, 5000);
        y.walk(1, 0, 9);
        y.back();
        y.judge(3);
        due("MILES 0, where another one was", y.bench(1, 1), 0);
        due("PAIN 0, where another one was", y.bench(1, 2), 0);
    }

    private static void pebbles() {
        PebbleInShoe x = new PebbleInShoe();
        int[] kindMores = {0, 9, 50, 59, 23, 32};
        int[] sizeRounds = {0, 99, 9900, 9999, 1, 100};
        for (int p = 0; p < 6; p++) {
            due("PEBBLES from 0 on", x.pebble(kindMores[p], sizeRounds[p]), p);
        }
        due("6 at most", x.pebble(0, 0), -4);
        due("6 at most", x.count(0), 6);
        for (int p = 0; p < 6; p++) {
            due("KIND", x.told(p, 0), kindMores[p] / 10);
            due("MORE", x.told(p, 1), kindMores[p] % 10);
            due("SIZE", x.told(p, 2), sizeRounds[p] / 100);
            due("ROUND", x.told(p, 3), sizeRounds[p] % 100);
        }
    }

    // ---- KINDS

    private static void hurts(int kindMore, int says, int soles, int want) {
        PebbleInShoe x = Made.pair(soles, kindMore, 9900, "feels " + says + ";wears 0;bars 1;");
        due("KIND, MORE " + kindMore + " HURTS by " + says + ", SOLES " + soles, x.hear(0, 0, 1, 0), want);
    }

    private static void wears(int kindMore, int says, int want) {
        PebbleInShoe x = Made.pair(0, kindMore, 9900, "feels 0;wears " + says + ";bars 1;");
        due("KIND, MORE " + kindMore + " WEARS by " + says, 99 - x.hear(0, 0, 1, 1), want);
    }

    private static void isSandTill(int kindMore, int last) {
        PebbleInShoe x = Made.pair(0, kindMore, 9900);
        due("KIND, MORE " + kindMore + " of SIZE 99 isn't SAND", x.told(0, 4), 0);
        for (int size = 0; size <= 12; size++) {
            x.put(0, 0, size);
            due("KIND, MORE " + kindMore + " of SIZE " + size + " IS SAND", x.told(0, 4), size <= last ? 1 : 0);
        }
    }

    private static void pebble() {
        hurts(9, 30, 4, 26);
        hurts(9, 5, 4, 1);
        hurts(9, 4, 4, 0);
        hurts(9, 3, 4, 0);
        hurts(0, 0, 20, 0);
        hurts(0, 99, 0, 99);
        wears(9, 0, 0);
        wears(9, 1, 1);
        wears(9, 20, 20);
        isSandTill(0, 0);
        isSandTill(9, 0);
    }

    private static void flint() {
        hurts(19, 30, 4, 35);
        hurts(10, 30, 4, 26);
        // 0 at least in the end, not ahead of MORE
        hurts(19, 0, 8, 1);
        hurts(19, 0, 9, 0);
        hurts(19, 0, 10, 0);
        wears(19, 1, 1);
        wears(19, 20, 20);
        isSandTill(10, 0);
        isSandTill(19, 0);
    }

    private static void shell() {
        hurts(29, 30, 4, 26);
        hurts(29, 3, 4, 0);
        wears(29, 0, 0);
        wears(29, 1, 2);
        wears(29, 20, 40);
        isSandTill(20, 0);
        isSandTill(21, 1);
        isSandTill(29, 9);
    }

    private static void shard() {
        hurts(32, 30, 0, 64);
        hurts(32, 30, 4, 56);
        hurts(32, 30, 5, 27);
        hurts(32, 30, 20, 12);
        // twice what is still below 0, and what MORE lifts above
        hurts(35, 0, 4, 2);
        hurts(34, 0, 4, 0);
        hurts(33, 0, 4, 0);
        hurts(39, 0, 9, 0);
        hurts(39, 0, 8, 1);
        wears(39, 0, 0);
        wears(39, 1, 0);
        wears(39, 2, 1);
        wears(39, 3, 1);
        wears(39, 19, 9);
        wears(39, 20, 10);
        isSandTill(30, 0);
        isSandTill(39, 0);
        PebbleInShoe x = Made.pair(4, 30, 9900, "feels 30;wears 0;bars 1;");
        x.shoe(0, 1, 9);
        due("a SHARD till SOLES are 5", x.hear(0, 0, 2, 0), 2 * 26 + 25);
    }

    private static void pearl() {
        hurts(49, 30, 4, 13);
        hurts(49, 31, 4, 13);
        hurts(49, 32, 4, 14);
        hurts(49, 6, 4, 1);
        hurts(49, 5, 4, 0);
        hurts(49, 1, 4, 0);
        hurts(49, 0, 20, 0);
        wears(49, 0, 0);
        wears(49, 1, 0);
        wears(49, 4, 0);
        wears(49, 5, 0);
        wears(49, 6, 12);
        wears(49, 20, 40);
        isSandTill(40, 0);
        isSandTill(41, 1);
        isSandTill(49, 9);
    }

    private static void grit() {
        hurts(50, 30, 20, 30);
        hurts(59, 30, 0, 30);
        // by 4, cut: 3, 4, 7, 8; 7; 9 and 10 by 4
        hurts(53, 30, 1, 30);
        hurts(54, 30, 1, 29);
        hurts(57, 30, 1, 29);
        hurts(58, 30, 1, 28);
        hurts(51, 30, 7, 29);
        hurts(53, 30, 3, 28);
        hurts(55, 30, 2, 28);
        hurts(59, 46, 20, 1);
        hurts(59, 45, 20, 0);
        hurts(59, 44, 20, 0);
        hurts(59, 0, 20, 0);
        wears(59, 1, 1);
        wears(59, 20, 20);
        isSandTill(50, 4);
        isSandTill(59, 4);
    }

    // ---- TEXTS

    private static void saysThen(String name, int first, int second) {
        // a GRIT with MORE 0 HURTS what the text says
        PebbleInShoe x = Made.judges(7, 8);
        x.pebble(50, 8070);
        x.shoe(1, 1, 9);
        Tape.law(x, "feels " + name + ";wears 3;bars 9999;");
        due("feels " + name + " in one MILE", x.hear(1, 0, 1, 0), first);
        due("feels " + name + " in two", x.hear(1, 0, 2, 0), first + second);
        due("feels " + name + " now", x.asks(0, 1, 0), first);
    }

    private static void textsAsTheyAreByThen() {
        saysThen("size", 80, 77);
        saysThen("round", 70, 70);
        saysThen("soles", 8, 9);
        saysThen("miles", 9, 10);
        saysThen("more", 0, 0);
        saysThen("judge", 1, 1);
        PebbleInShoe x = Made.pair(0, 19, 5000, "feels more;wears more;bars more;");
        for (int part = 0; part < 3; part++) {
            due("more of a PEBBLE with MORE 9", x.asks(part, 0, 0), 9);
        }
    }

    private static void theLawAtFirst() {
        PebbleInShoe x = Made.pair(9, 0, 4010);
        due("TEXT 0 is there at first", x.count(2), 1);
        due("it is THE LAW", x.count(3), 0);
        due("feels size - round", x.asks(0, 0, 0), 30);
        x.put(0, 1, 40);
        due("feels 0", x.asks(0, 0, 0), 0);
        x.put(0, 1, 41);
        due("feels 0 at least", x.asks(0, 0, 0), 0);
        due("wears 1", x.asks(1, 0, 0), 1);
        due("bars 30", x.asks(2, 0, 0), 30);
        Tape.law(x, "feels 1;wears 2;bars 3;");
        due("TEXT 0 stays a TEXT", x.force(0), 1);
        due("and says what it said", x.asks(2, 0, 0), 30);
    }
}
