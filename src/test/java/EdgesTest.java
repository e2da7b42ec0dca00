/** Promises 1 to 14: each sentence that names a boundary, by a test of its own. */
final class EdgesTest {
    static final int LEAST = Integer.MIN_VALUE;
    static final int GREATEST = Integer.MAX_VALUE;

    private EdgesTest() {
    }

    static void run() {
        newObject();
        count();
        judge();
        shoe();
        bench();
        feedRefused();
        feedFull();
        text();
        force();
        asks();
        pebble();
        put();
        told();
        walkRefused();
        walkTill999();
        hear();
    }

    private static void due(String what, long got, long want) {
        Check.due(what, got, want);
    }

    private static void newObject() {
        PebbleInShoe x = new PebbleInShoe();
        due("1: no PEBBLES", x.count(0), 0);
        due("1: no JUDGES", x.count(1), 0);
        due("1: no PEBBLE 0", x.told(0, 0), -5);
        due("1: no JUDGE 0", x.bench(0, 0), -5);
        due("1: THE TAPE is empty", x.count(4), 0);
        due("1: no IMAGE", x.back(), -3);
    }

    private static void count() {
        PebbleInShoe x = Made.judges(1, 2, 3);
        Made.rounds(x, 1, 2, 3, 4, 5);
        Tape.text(x, "feels 1;wears 1;bars 1;");
        Tape.law(x, "feels 1;wears 1;bars 1;");
        Tape.text(x, "feels 1;wears 1;bars 1;");
        x.feed(3, 1, 2, 3, 4, 5);
        x.feed(4, 1, 2, 3, 4, 5);
        due("2: PEBBLES", x.count(0), 5);
        due("2: JUDGES", x.count(1), 3);
        due("2: TEXTS", x.count(2), 4);
        due("2: THE LAW", x.count(3), 2);
        due("2: bytes of THE TAPE", x.count(4), 7);
        for (int what : new int[] {-1, 5, LEAST, GREATEST}) {
            due("2: BAD, " + what, x.count(what), -2);
        }
    }

    private static void judge() {
        PebbleInShoe x = new PebbleInShoe();
        for (int thick : new int[] {-1, 21, LEAST, GREATEST}) {
            due("3: BAD, " + thick, x.judge(thick), -2);
        }
        due("3: none came", x.count(1), 0);
        due("3: SOLES 0", x.judge(0), 0);
        due("3: SOLES 20", x.judge(20), 1);
        due("3: such SOLES", x.bench(0, 0), 0);
        due("3: such SOLES", x.bench(1, 0), 20);
        x.judge(1);
        due("3: the fourth", x.judge(2), 3);
        due("3: FULL", x.judge(0), -4);
        due("3: BAD ahead of FULL", x.judge(-1), -2);
        due("3: BAD ahead of FULL", x.judge(21), -2);
        due("3: four", x.count(1), 4);
    }

    private static void shoe() {
        PebbleInShoe x = Made.judges(4, 5);
        due("4: what SOLES were", x.shoe(1, 0, 0), 5);
        due("4: SOLES become 20", x.shoe(1, 0, 20), 0);
        due("4: SOLES were 20", x.bench(1, 0), 20);
        due("4: what MILES were", x.shoe(1, 1, 999), 0);
        due("4: MILES become 0", x.shoe(1, 1, 0), 999);
        due("4: MILES are 0", x.bench(1, 1), 0);
        due("4: MILES may be more than SOLES", x.shoe(1, 1, 21), 0);
        due("4: the other JUDGE's stay", x.bench(0, 0), 4);
        due("4: the other JUDGE's stay", x.bench(0, 1), 0);
        for (int j : new int[] {-1, 2, 4, LEAST, GREATEST}) {
            due("4: no such JUDGE " + j, x.shoe(j, 0, 0), -5);
            due("4: no such JUDGE ahead of what, v", x.shoe(j, 2, -1), -5);
        }
        for (int what : new int[] {-1, 2, LEAST, GREATEST}) {
            due("4: what " + what, x.shoe(0, what, 0), -7);
        }
        for (int v : new int[] {-1, 21, 999, LEAST, GREATEST}) {
            due("4: SOLES " + v, x.shoe(0, 0, v), -7);
        }
        for (int v : new int[] {-1, 1000, LEAST, GREATEST}) {
            due("4: MILES " + v, x.shoe(0, 1, v), -7);
        }
        due("4: SOLES stay by -7", x.bench(0, 0), 4);
        due("4: MILES stay by -7", x.bench(0, 1), 0);
    }

    private static void bench() {
        PebbleInShoe x = Made.pair(4, 50, 9900, "feels 6;wears 0;bars 1;");
        x.walk(0, 0, 3);
        due("5: SOLES", x.bench(0, 0), 4);
        due("5: MILES", x.bench(0, 1), 3);
        due("5: PAIN", x.bench(0, 2), 18);
        for (int j : new int[] {-1, 1, 4, LEAST, GREATEST}) {
            due("5: no such JUDGE " + j, x.bench(j, 0), -5);
            due("5: no such JUDGE ahead of what", x.bench(j, 3), -5);
        }
        for (int what : new int[] {-1, 3, LEAST, GREATEST}) {
            due("5: what " + what, x.bench(0, what), -7);
        }
    }

    private static void feedRefused() {
        PebbleInShoe x = new PebbleInShoe();
        for (int n : new int[] {0, -1, 6, LEAST, GREATEST}) {
            due("6: n " + n, x.feed(n, 1, 1, 1, 1, 1), -2);
        }
        for (int k = 0; k < 5; k++) {
            for (int v : new int[] {-1, 256, LEAST, GREATEST}) {
                int[] b = {0, 255, 0, 255, 0};
                b[k] = v;
                due("6: byte " + k + " is " + v, x.feed(5, b[0], b[1], b[2], b[3], b[4]), -2);
                due("6: any of the five, n 1", x.feed(1, b[0], b[1], b[2], b[3], b[4]), -2);
            }
        }
        due("6: none came", x.count(4), 0);
        due("6: n 1, bytes 0 and 255", x.feed(1, 0, 255, 0, 255, 0), 1);
        due("6: n 5, bytes 255 and 0", x.feed(5, 255, 0, 255, 0, 255), 6);
        x.text();
        // the first n, one by one, behind the others
        x.feed(2, 'f', 'e', '$', '$', '$');
        x.feed(3, 'e', 'l', 's', '$', '$');
        x.feed(5, ' ', '1', '2', '3', '4');
        x.feed(1, ';', '$', '$', '$', '$');
        due("6: how many it has", x.feed(4, 'w', 'e', 'a', 'r', '$'), 15);
        x.feed(5, 's', ' ', '5', ';', 'b');
        x.feed(5, 'a', 'r', 's', ' ', '6');
        x.feed(5, '7', '8', '9', ';', '\n');
        due("6: they are a TEXT", x.text(), 1);
        x.force(1);
        x.judge(0);
        x.pebble(0, 0);
        due("6: feels 1234", x.asks(0, 0, 0), 99);
        due("6: wears 5", x.asks(1, 0, 0), 5);
        due("6: bars 6789", x.asks(2, 0, 0), 6789);
    }

    private static void feedFull() {
        for (int room = 0; room < 5; room++) {
            PebbleInShoe x = new PebbleInShoe();
            Tape.feed(x, " ".repeat(160 - room));
            for (int n = room + 1; n <= 5; n++) {
                due("6: FULL, " + n + " where " + room + " have room", x.feed(n, 1, 1, 1, 1, 1), -4);
                due("6: BAD ahead of FULL", x.feed(n, 1, 1, 1, 1, 256), -2);
                due("6: none comes", x.count(4), 160 - room);
            }
            if (room > 0) {
                due("6: they have all room", x.feed(room, 32, 32, 32, 32, 32), 160);
            }
            due("6: what came is there", x.text(), -260);
        }
    }

    private static void text() {
        PebbleInShoe x = new PebbleInShoe();
        due("7: an empty TAPE: its FAULT", x.text(), -100);
        Tape.feed(x, "feels 1;");
        due("7: -100 less the place", x.text(), -108);
        due("7: it is empty then", x.count(4), 0);
        due("7: no TEXT by a FAULT", x.count(2), 1);
        due("7: its number", Tape.text(x, "feels 1;wears 1;bars 1;"), 1);
        due("7: it is empty then", x.count(4), 0);
        due("7: THE LAW stays", x.count(3), 0);
        for (int t = 2; t < 6; t++) {
            due("7: a FAULT takes no number", Tape.text(x, "feels 1;wears 1;bars 1"), -122);
            due("7: its number", Tape.text(x, "feels 1;wears 1;bars 1;"), t);
        }
        due("7: FULL ahead of the FAULT of an empty TAPE", x.text(), -4);
        Tape.feed(x, "$");
        due("7: FULL ahead of the FAULT", x.text(), -4);
        due("7: then THE TAPE stays", x.count(4), 1);
        due("7: and goes on", x.feed(1, 'x', 0, 0, 0, 0), 2);
        due("7: FULL", x.text(), -4);
        due("7: no more TEXTS", x.count(2), 6);
    }

    private static void force() {
        PebbleInShoe x = new PebbleInShoe();
        due("8: TEXT 1 is none", x.force(1), -2);
        due("8: TEXT 0 was", x.force(0), 0);
        for (int t = 1; t < 6; t++) {
            Tape.text(x, "feels 1;wears 1;bars 1;");
        }
        due("8: TEXT 0 was", x.force(5), 0);
        due("8: TEXT 5 was", x.force(1), 5);
        for (int t : new int[] {-1, 6, 7, LEAST, GREATEST}) {
            due("8: BAD, " + t, x.force(t), -2);
        }
        due("8: it stays", x.count(3), 1);
    }

    private static void asks() {
        PebbleInShoe x = Made.judges(0, 9);
        Made.rounds(x, 1, 2, 3);
        due("9: feels", x.asks(0, 1, 2), 47);
        due("9: wears", x.asks(1, 1, 2), 1);
        due("9: bars", x.asks(2, 1, 2), 30);
        for (int v : new int[] {-1, LEAST, GREATEST}) {
            due("9: part " + v, x.asks(v, 0, 0), -2);
            due("9: JUDGE " + v, x.asks(0, v, 0), -2);
            due("9: PEBBLE " + v, x.asks(0, 0, v), -2);
        }
        due("9: part 3", x.asks(3, 0, 0), -2);
        due("9: JUDGE 2", x.asks(0, 2, 0), -2);
        due("9: PEBBLE 3", x.asks(0, 0, 3), -2);
        x.put(2, 0, 0);
        due("9: of SAND, too", x.asks(1, 0, 2), 1);
        x.put(2, 0, 99);
        due("9: as they are now", x.asks(0, 0, 2), 96);
    }

    private static void pebble() {
        PebbleInShoe x = new PebbleInShoe();
        for (int v : new int[] {-1, 60, 100, LEAST, GREATEST}) {
            due("10: kindMore " + v, x.pebble(v, 0), -2);
        }
        for (int v : new int[] {-1, 10000, LEAST, GREATEST}) {
            due("10: sizeRound " + v, x.pebble(0, v), -2);
        }
        due("10: none came", x.count(0), 0);
        due("10: the least", x.pebble(0, 0), 0);
        due("10: the greatest", x.pebble(59, 9999), 1);
        for (int p = 2; p < 6; p++) {
            due("10: its number", x.pebble(10, 10), p);
        }
        due("10: FULL", x.pebble(0, 0), -4);
        due("10: BAD ahead of FULL", x.pebble(60, 0), -2);
        due("10: BAD ahead of FULL", x.pebble(0, 10000), -2);
        due("10: six", x.count(0), 6);
    }

    private static void put() {
        PebbleInShoe x = Made.pair(0, 0, 4010);
        x.pebble(0, 3020);
        due("11: what SIZE was", x.put(1, 0, 99), 30);
        due("11: SIZE becomes 0", x.put(1, 0, 0), 99);
        due("11: it IS SAND by that", x.told(1, 4), 1);
        due("11: what ROUND was", x.put(1, 1, 99), 20);
        due("11: ROUND becomes 0", x.put(1, 1, 0), 99);
        due("11: SIZE was 0", x.put(1, 0, 1), 0);
        due("11: it isn't SAND by that", x.told(1, 4), 0);
        due("11: the other PEBBLE stays", x.told(0, 2), 40);
        due("11: the other PEBBLE stays", x.told(0, 3), 10);
        for (int p : new int[] {-1, 2, 6, LEAST, GREATEST}) {
            due("11: no such PEBBLE " + p, x.put(p, 0, 0), -5);
            due("11: no such PEBBLE ahead of what, v", x.put(p, 2, 100), -5);
        }
        for (int what : new int[] {-1, 2, LEAST, GREATEST}) {
            due("11: what " + what, x.put(0, what, 0), -7);
        }
        for (int v : new int[] {-1, 100, LEAST, GREATEST}) {
            due("11: SIZE " + v, x.put(0, 0, v), -7);
            due("11: ROUND " + v, x.put(0, 1, v), -7);
        }
        due("11: SIZE stays by -7", x.told(0, 2), 40);
        due("11: ROUND stays by -7", x.told(0, 3), 10);
    }

    private static void told() {
        PebbleInShoe x = Made.pair(0, 34, 5678);
        x.pebble(23, 300);
        int[] want = {3, 4, 56, 78, 0};
        int[] other = {2, 3, 3, 0, 1};
        for (int what = 0; what < 5; what++) {
            due("12: what " + what, x.told(0, what), want[what]);
            due("12: what " + what, x.told(1, what), other[what]);
        }
        for (int p : new int[] {-1, 2, 6, LEAST, GREATEST}) {
            due("12: no such PEBBLE " + p, x.told(p, 0), -5);
            due("12: no such PEBBLE ahead of what", x.told(p, 5), -5);
        }
        for (int what : new int[] {-1, 5, LEAST, GREATEST}) {
            due("12: what " + what, x.told(0, what), -7);
        }
    }

    private static void walkRefused() {
        PebbleInShoe x = Made.pair(0, 50, 9900, "feels 3;wears 1;bars 1;");
        x.judge(0);
        x.pebble(50, 9900);
        for (int v : new int[] {-1, 2, LEAST, GREATEST}) {
            due("13: no such JUDGE " + v, x.walk(v, 0, 1), -5);
            due("13: no such PEBBLE " + v, x.walk(0, v, 1), -5);
            due("13: ahead of n", x.walk(0, v, 61), -5);
        }
        for (int n : new int[] {-1, 61, LEAST, GREATEST}) {
            due("13: n " + n, x.walk(0, 0, n), -7);
        }
        due("13: MILES stay", x.bench(0, 1), 0);
        due("13: SIZE stays", x.told(0, 2), 99);
        due("13: n 0", x.walk(0, 0, 0), 0);
        due("13: n 60, truly", x.walk(0, 0, 60), 180);
        due("13: MILES", x.bench(0, 1), 60);
        due("13: SOLES", x.bench(0, 0), 6);
        due("13: PAIN", x.bench(0, 2), 180);
        due("13: SIZE", x.told(0, 2), 39);
        due("13: the other JUDGE stays", x.bench(1, 1), 0);
        due("13: the other PEBBLE stays", x.told(1, 2), 99);
    }

    private static void walkTill999() {
        PebbleInShoe x = Made.pair(0, 50, 9900, "feels 3;wears 1;bars 1;");
        x.shoe(0, 1, 940);
        due("13: FULL, MILES would be 1000", x.walk(0, 0, 60), -4);
        due("13: -7 ahead of FULL", x.walk(0, 0, 61), -7);
        due("13: MILES stay by FULL", x.bench(0, 1), 940);
        due("13: SIZE stays by FULL", x.told(0, 2), 99);
        due("13: PAIN stays by FULL", x.bench(0, 2), 0);
        due("13: MILES will be 999", x.walk(0, 0, 59), 177);
        due("13: MILES are 999", x.bench(0, 1), 999);
        due("13: FULL from 999", x.walk(0, 0, 1), -4);
        due("13: 0 MILES from 999", x.walk(0, 0, 0), 0);
        x.shoe(0, 1, 939);
        due("13: 60 to 999", x.walk(0, 0, 60) >= 0 ? x.bench(0, 1) : -1, 999);
    }

    private static void hear() {
        PebbleInShoe x = Made.pair(2, 50, 9900, "feels 3;wears 1;bars 180;");
        due("14: FELT", x.hear(0, 0, 60, 0), 180);
        due("14: SIZE then", x.hear(0, 0, 60, 1), 39);
        due("14: GUILTY", x.hear(0, 0, 60, 2), 1);
        due("14: not GUILTY", x.hear(0, 0, 59, 2), 0);
        due("14: SOLES then", x.hear(0, 0, 60, 3), 8);
        due("14: 0 MILES, FELT", x.hear(0, 0, 0, 0), 0);
        due("14: 0 MILES, SIZE then", x.hear(0, 0, 0, 1), 99);
        due("14: 0 MILES, SOLES then", x.hear(0, 0, 0, 3), 2);
        for (int v : new int[] {-1, 1, LEAST, GREATEST}) {
            due("14: no such JUDGE " + v, x.hear(v, 0, 1, 0), -5);
            due("14: no such PEBBLE " + v, x.hear(0, v, 1, 0), -5);
            due("14: ahead of n, what", x.hear(v, v, 61, 4), -5);
        }
        for (int n : new int[] {-1, 61, LEAST, GREATEST}) {
            due("14: n " + n, x.hear(0, 0, n, 0), -7);
        }
        for (int what : new int[] {-1, 4, LEAST, GREATEST}) {
            due("14: what " + what, x.hear(0, 0, 1, what), -7);
        }
        due("14: in thought, MILES", x.bench(0, 1), 0);
        due("14: in thought, PAIN", x.bench(0, 2), 0);
        due("14: in thought, SOLES", x.bench(0, 0), 2);
        due("14: in thought, SIZE", x.told(0, 2), 99);
    }
}
