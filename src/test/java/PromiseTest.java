/** Promises 1 to 37 by hand: ordinary inputs, the edges that the document names, wrong inputs. */
final class PromiseTest {
    private PromiseTest() {
    }

    static void run() {
        newObject();
        judges();
        shoes();
        tape();
        pebbles();
        sandByKind();
        hurtsByKind();
        wearsByKind();
        walks();
        pain();
        hears();
        barsBehind();
        fewestAndSand();
        unlikes();
        hardestOnes();
        thickSoles();
        orders();
        counsels();
        reversedOnes();
        refusedSheets();
        whatIfs();
        films();
        lots();
        images();
        sheets();
        copies();
        pebblesBySheets();
        takenOnes();
    }

    private static void due(String what, long got, long want) {
        Check.due(what, got, want);
    }

    private static void newObject() {
        PebbleInShoe x = new PebbleInShoe();
        int[] counts = {0, 0, 1, 0, 0};
        for (int what = 0; what < 5; what++) {
            due("a new object's count(" + what + ")", x.count(what), counts[what]);
        }
        due("count(-1)", x.count(-1), -2);
        due("count(5)", x.count(5), -2);
        due("bench of none", x.bench(0, 0), -5);
        due("told of none", x.told(0, 0), -5);
        due("back without AN IMAGE", x.back(), -3);
        for (int s = 0; s < 4; s++) {
            due("SHEET " + s + " is missing", x.cell(s, 0, 0), -11);
        }
        due("NO", PebbleInShoe.NO, -(1L << 62));
    }

    private static void judges() {
        PebbleInShoe x = new PebbleInShoe();
        due("judge(21)", x.judge(21), -2);
        due("judge(-1)", x.judge(-1), -2);
        due("judge(20)", x.judge(20), 0);
        due("judge(0)", x.judge(0), 1);
        due("judge(7)", x.judge(7), 2);
        due("judge(8)", x.judge(8), 3);
        due("a fifth", x.judge(5), -4);
        due("a fifth that is BAD", x.judge(21), -2);
        due("count(1)", x.count(1), 4);
        due("SOLES", x.bench(0, 0), 20);
        due("SOLES", x.bench(2, 0), 7);
        due("MILES", x.bench(2, 1), 0);
        due("PAIN", x.bench(2, 2), 0);
        due("bench what 3", x.bench(2, 3), -7);
        due("bench what -1", x.bench(2, -1), -7);
        due("bench of none", x.bench(4, 3), -5);
        due("bench of -1", x.bench(-1, 0), -5);
    }

    private static void shoes() {
        PebbleInShoe x = new PebbleInShoe();
        x.judge(4);
        due("SOLES were", x.shoe(0, 0, 20), 4);
        due("SOLES were", x.shoe(0, 0, 0), 20);
        due("MILES were", x.shoe(0, 1, 999), 0);
        due("MILES were", x.shoe(0, 1, 10), 999);
        due("SOLES are not thicker by that", x.bench(0, 0), 0);
        due("SOLES 21", x.shoe(0, 0, 21), -7);
        due("SOLES -1", x.shoe(0, 0, -1), -7);
        due("MILES 1000", x.shoe(0, 1, 1000), -7);
        due("MILES -1", x.shoe(0, 1, -1), -7);
        due("shoe what 2", x.shoe(0, 2, 0), -7);
        due("shoe what -1", x.shoe(0, -1, 0), -7);
        due("no such JUDGE first", x.shoe(1, 2, -1), -5);
        due("no such JUDGE", x.shoe(-1, 0, 0), -5);
        due("MILES stay", x.bench(0, 1), 10);
    }

    private static void tape() {
        PebbleInShoe x = new PebbleInShoe();
        due("feed 0", x.feed(0, 1, 1, 1, 1, 1), -2);
        due("feed 6", x.feed(6, 1, 1, 1, 1, 1), -2);
        for (int k = 0; k < 5; k++) {
            int[] b = {1, 1, 1, 1, 1};
            b[k] = 256;
            due("a byte 256, " + k, x.feed(1, b[0], b[1], b[2], b[3], b[4]), -2);
            b[k] = -1;
            due("a byte -1, " + k, x.feed(5, b[0], b[1], b[2], b[3], b[4]), -2);
        }
        due("none came", x.count(4), 0);
        due("feed", x.feed(1, 0, 255, 255, 0, 255), 1);
        for (int i = 0; i < 31; i++) {
            due("feed", x.feed(5, 255, 0, 32, 32, 32), 6 + 5 * i);
        }
        due("feed 5 where 4 have room", x.feed(5, 1, 1, 1, 1, 1), -4);
        due("none came", x.count(4), 156);
        due("BAD ahead of FULL", x.feed(5, 1, 1, 1, 1, 256), -2);
        due("feed 4", x.feed(4, 1, 1, 1, 1, 1), 160);
        due("feed 1", x.feed(1, 1, 1, 1, 1, 1), -4);
        due("its FAULT", x.text(), -100);
        due("it is empty", x.count(4), 0);
        x.feed(5, 'f', 'e', 'e', 'l', 's');
        x.feed(3, ' ', '7', ';', '?', '?');
        x.feed(5, 'w', 'e', 'a', 'r', 's');
        x.feed(2, '8', ';', '?', '?', '?');
        x.feed(4, 'b', 'a', 'r', 's', '?');
        due("bytes", x.feed(2, '9', ';', '?', '?', '?'), 21);
        due("text", x.text(), 1);
    }

    private static void pebbles() {
        PebbleInShoe x = new PebbleInShoe();
        due("kindMore 60", x.pebble(60, 0), -2);
        due("kindMore -1", x.pebble(-1, 0), -2);
        due("sizeRound 10000", x.pebble(0, 10000), -2);
        due("sizeRound -1", x.pebble(0, -1), -2);
        due("pebble", x.pebble(59, 9999), 0);
        due("pebble", x.pebble(0, 0), 1);
        due("pebble", x.pebble(37, 1234), 2);
        int[] want = {3, 7, 12, 34, 0};
        for (int what = 0; what < 5; what++) {
            due("told(2, " + what + ")", x.told(2, what), want[what]);
        }
        due("told(1, 4)", x.told(1, 4), 1);
        due("told(0, 0)", x.told(0, 0), 5);
        due("told(0, 1)", x.told(0, 1), 9);
        due("told what 5", x.told(0, 5), -7);
        due("told what -1", x.told(0, -1), -7);
        due("told of none", x.told(3, 5), -5);
        due("told of -1", x.told(-1, 0), -5);
        due("SIZE was", x.put(2, 0, 99), 12);
        due("ROUND was", x.put(2, 1, 0), 34);
        due("SIZE was", x.put(2, 0, 0), 99);
        due("SIZE 100", x.put(2, 0, 100), -7);
        due("ROUND -1", x.put(2, 1, -1), -7);
        due("put what 2", x.put(2, 2, 0), -7);
        due("put what -1", x.put(2, -1, 0), -7);
        due("put, no such PEBBLE first", x.put(3, 2, 100), -5);
        due("put, no such PEBBLE", x.put(-1, 0, 0), -5);
        due("SIZE", x.told(2, 2), 0);
        due("ROUND", x.told(2, 3), 0);
        x.pebble(0, 0);
        x.pebble(0, 0);
        due("the sixth", x.pebble(0, 0), 5);
        due("a seventh", x.pebble(0, 0), -4);
        due("a seventh that is BAD", x.pebble(60, 0), -2);
        due("count(0)", x.count(0), 6);
    }

    private static void sandByKind() {
        int[] lastSand = {0, 0, 3, 0, 3, 4};
        for (int kind = 0; kind <= 5; kind++) {
            PebbleInShoe x = Made.pair(0, 10 * kind + 3, 9900);
            for (int size = 0; size < 7; size++) {
                x.put(0, 0, size);
                due("KIND " + kind + " of SIZE " + size + " IS SAND", x.told(0, 4), size <= lastSand[kind] ? 1 : 0);
            }
        }
        due("a SHELL with MORE 0", Made.pair(0, 20, 100).told(0, 4), 0);
    }

    private static void hurtDue(int kindMore, int says, int soles, int want) {
        PebbleInShoe x = Made.pair(soles, kindMore, 9900);
        Tape.law(x, "feels " + says + "; wears 0; bars 1;");
        due("KIND, MORE " + kindMore + " HURTS by " + says + ", SOLES " + soles, x.hear(0, 0, 1, 0), want);
    }

    private static void hurtsByKind() {
        hurtDue(7, 30, 4, 26);
        hurtDue(7, 3, 4, 0);
        hurtDue(17, 30, 4, 33);
        hurtDue(17, 1, 4, 4);
        hurtDue(17, 0, 8, 0);
        hurtDue(27, 30, 4, 26);
        hurtDue(37, 30, 4, 66);
        hurtDue(37, 30, 5, 32);
        hurtDue(37, 0, 4, 6);
        hurtDue(32, 0, 4, 0);
        hurtDue(37, 0, 6, 1);
        hurtDue(47, 31, 4, 13);
        hurtDue(47, 30, 4, 13);
        hurtDue(47, 1, 4, 0);
        hurtDue(57, 30, 3, 25);
        hurtDue(53, 30, 1, 30);
        hurtDue(50, 30, 20, 30);
        hurtDue(59, 30, 20, 0);
        hurtDue(59, 46, 20, 1);
    }

    private static void wearDue(int kindMore, int says, int want) {
        PebbleInShoe x = Made.pair(0, kindMore, 9900);
        Tape.law(x, "feels 0; wears " + says + "; bars 1;");
        due("KIND, MORE " + kindMore + " WEARS by " + says, 99 - x.hear(0, 0, 1, 1), want);
    }

    private static void wearsByKind() {
        wearDue(5, 7, 7);
        wearDue(15, 7, 7);
        wearDue(25, 7, 14);
        wearDue(35, 7, 3);
        wearDue(35, 1, 0);
        wearDue(45, 5, 0);
        wearDue(45, 6, 12);
        wearDue(55, 7, 7);
    }

    private static void walks() {
        PebbleInShoe x = Made.pair(3, 0, 4010);
        due("walk", x.walk(0, 0, 3), 27 + 26 + 25);
        due("SIZE", x.told(0, 2), 37);
        due("ROUND", x.told(0, 3), 10);
        due("MILES", x.bench(0, 1), 3);
        due("SOLES", x.bench(0, 0), 3);
        due("PAIN", x.bench(0, 2), 78);
        due("walk to the tenth MILE", x.walk(0, 0, 7), 24 + 23 + 22 + 21 + 20 + 19 + 18);
        due("SOLES", x.bench(0, 0), 4);
        due("by thicker SOLES", x.walk(0, 0, 1), 30 - 10 - 4);
        due("walk 0", x.walk(0, 0, 0), 0);
        due("walk 61", x.walk(0, 0, 61), -7);
        due("walk -1", x.walk(0, 0, -1), -7);
        due("no such JUDGE", x.walk(1, 0, 61), -5);
        due("no such PEBBLE", x.walk(0, 1, 61), -5);
        due("no such JUDGE", x.walk(-1, 0, 1), -5);
        due("no such PEBBLE", x.walk(0, -1, 1), -5);
        x.shoe(0, 1, 990);
        due("MILES above 999", x.walk(0, 0, 10), -4);
        due("n ahead of FULL", x.walk(0, 0, 61), -7);
        due("MILES stay", x.bench(0, 1), 990);
        due("walk", x.walk(0, 0, 9), 15 + 14 + 13 + 12 + 11 + 10 + 9 + 8 + 7);
        due("MILES", x.bench(0, 1), 999);
        due("walk 0 at the end", x.walk(0, 0, 0), 0);
        x.shoe(0, 0, 20);
        x.shoe(0, 1, 9);
        x.walk(0, 0, 1);
        due("SOLES 20 at most", x.bench(0, 0), 20);
        PebbleInShoe sand = Made.pair(0, 0, 0);
        due("walk on SAND", sand.walk(0, 0, 20), 0);
        due("MILES on SAND", sand.bench(0, 1), 20);
        due("SOLES on SAND", sand.bench(0, 0), 2);
        PebbleInShoe small = Made.pair(0, 20, 300);
        due("SIZE 0 at least", small.walk(0, 0, 5), 3 + 1);
        due("SIZE", small.told(0, 2), 0);
    }

    private static void pain() {
        PebbleInShoe x = Made.pair(0, 39, 9900);
        Tape.law(x, "feels 99; wears 0; bars 1;");
        int sum = 0;
        for (int i = 0; i < 9; i++) {
            x.shoe(0, 0, 0);
            x.shoe(0, 1, 0);
            sum += x.walk(0, 0, 49);
        }
        // 216, 214, .. while SOLES are below 5
        due("felt", sum, 9 * (10 * 216 + 10 * 214 + 10 * 212 + 10 * 210 + 9 * 208));
        due("PAIN", x.bench(0, 2), 93528);
        x.shoe(0, 0, 0);
        x.shoe(0, 1, 0);
        due("felt on", x.walk(0, 0, 49), 10392);
        due("PAIN 99999 at most", x.bench(0, 2), 99999);
        due("felt on in thought", x.hear(0, 0, 1, 0) > 0 ? 1 : 0, 1);
    }

    private static void hears() {
        PebbleInShoe x = Made.pair(3, 0, 4010);
        due("felt", x.hear(0, 0, 12, 0), 225 + 16 + 15);
        due("SIZE then", x.hear(0, 0, 12, 1), 28);
        due("GUILTY", x.hear(0, 0, 12, 2), 1);
        due("GUILTY in a MILE", x.hear(0, 0, 1, 2), 0);
        due("GUILTY in two", x.hear(0, 0, 2, 2), 1);
        due("SOLES then", x.hear(0, 0, 12, 3), 4);
        due("n 60", x.hear(0, 0, 60, 1), 0);
        due("n 61", x.hear(0, 0, 61, 0), -7);
        due("n -1", x.hear(0, 0, -1, 0), -7);
        due("what 4", x.hear(0, 0, 0, 4), -7);
        due("what -1", x.hear(0, 0, 0, -1), -7);
        due("no such JUDGE", x.hear(1, 0, 61, 4), -5);
        due("no such PEBBLE", x.hear(0, 1, 61, 4), -5);
        due("all is as ahead: SIZE", x.told(0, 2), 40);
        due("all is as ahead: MILES", x.bench(0, 1), 0);
        due("all is as ahead: SOLES", x.bench(0, 0), 3);
        due("all is as ahead: PAIN", x.bench(0, 2), 0);
        Tape.law(x, "feels miles = 1000; wears 0; bars 1;");
        x.shoe(0, 1, 999);
        x.shoe(0, 0, 0);
        due("MILES above 999 in thought", x.hear(0, 0, 2, 2), 0);
        due("SOLES behind MILE 1000", x.hear(0, 0, 1, 3), 1);
        Tape.law(x, "feels 9 * (miles = 1000); wears 0; bars 1;");
        due("felt in MILE 1001", x.hear(0, 0, 2, 0), 8);
        due("felt in MILE 1000", x.hear(0, 0, 1, 0), 0);
    }

    private static void barsBehind() {
        PebbleInShoe x = Made.pair(0, 0, 1000);
        // 10 + 9 is felt in two MILES, SIZE is 8 then
        Tape.law(x, "feels size; wears 1; bars 11 + size;");
        due("bars behind two", x.hear(0, 0, 2, 2), 1);
        due("bars behind one", x.hear(0, 0, 1, 2), 0);
        Tape.law(x, "feels 1; wears 0; bars miles + soles;");
        due("felt 9, bars 9", x.hear(0, 0, 9, 2), 1);
        due("felt 10, bars 11", x.hear(0, 0, 10, 2), 0);
        Tape.law(x, "feels 5; wears 10 * miles; bars 1;");
        // the text is told ahead of the MILE
        due("wears at the first MILE", x.hear(0, 0, 1, 1), 10);
        due("wears at the second", x.hear(0, 0, 2, 1), 0);
    }

    private static void fewestAndSand() {
        PebbleInShoe x = Made.pair(3, 0, 4010);
        due("fewest", x.fewest(0, 0), 2);
        due("sand", x.sand(0, 0), 40);
        x.put(0, 0, 60);
        due("sand, 60", x.sand(0, 0), 60);
        x.put(0, 0, 61);
        due("sand, 61", x.sand(0, 0), -1);
        x.put(0, 0, 0);
        due("sand as it is", x.sand(0, 0), 0);
        due("fewest of SAND", x.fewest(0, 0), -1);
        due("fewest, no JUDGE", x.fewest(1, 0), -5);
        due("fewest, no PEBBLE", x.fewest(0, 1), -5);
        due("sand, no JUDGE", x.sand(-1, 0), -5);
        due("sand, no PEBBLE", x.sand(0, -1), -5);
        Tape.law(x, "feels 1; wears 0; bars 0;");
        due("fewest 0", x.fewest(0, 0), 0);
        x.put(0, 0, 50);
        x.shoe(0, 0, 0);
        Tape.law(x, "feels 99; wears 0; bars 99 * 60 - 10 - 20 - 30 - 40 - 50;");
        due("fewest 60", x.fewest(0, 0), 60);
        Tape.law(x, "feels 99; wears 0; bars 5791;");
        due("fewest 61 is none", x.fewest(0, 0), -1);
        due("nothing changed", x.bench(0, 1) + x.bench(0, 2), 0);
    }

    private static void unlikes() {
        PebbleInShoe x = Made.pair(0, 0, 4010);
        x.judge(15);
        x.judge(0);
        // 30, .. by the first; 15, 14, 13 by the second
        due("unlike", x.unlike(0, 1, 0), 1);
        due("the other way", x.unlike(1, 0, 0), 1);
        due("alike", x.unlike(0, 2, 0), -1);
        due("one and the same", x.unlike(0, 0, 0), -5);
        due("no such JUDGE", x.unlike(0, 3, 0), -5);
        due("no such JUDGE", x.unlike(3, 0, 0), -5);
        due("no such JUDGE", x.unlike(-1, 0, 0), -5);
        due("no such PEBBLE", x.unlike(0, 1, 1), -5);
        due("no such PEBBLE", x.unlike(0, 1, -1), -5);
        Tape.law(x, "feels 99; wears 0; bars judge;");
        due("unlike at 0", x.unlike(0, 1, 0), 0);
        Tape.law(x, "feels judge = 1 and miles = 59 or 20; wears 0; bars 9999;");
        due("never unlike", x.unlike(0, 1, 0), -1);
        Tape.law(x, "feels 0; wears 0; bars 1 - (judge = 1 and miles = 60);");
        due("unlike at 60", x.unlike(0, 1, 0), 60);
    }

    private static void hardestOnes() {
        PebbleInShoe x = new PebbleInShoe();
        due("no JUDGES", x.hardest(0, 0), -1);
        due("no JUDGES", x.hardest(60, 1), -1);
        x.judge(20);
        x.judge(10);
        x.judge(10);
        x.judge(0);
        due("no PEBBLES: the first", x.hardest(5, 0), 0);
        due("no PEBBLES: none", x.hardest(5, 1), 0);
        x.pebble(0, 2500);
        x.pebble(0, 2500);
        x.pebble(0, 3100);
        // two MILES: 5 + 4, 5 + 4, 11 + 10 by SOLES 20; 15 + 14, .., 21 + 20 by 10; all by 0
        due("hardest", x.hardest(2, 0), 3);
        due("how many", x.hardest(2, 1), 3);
        x.shoe(3, 0, 20);
        due("of like ones the first", x.hardest(2, 0), 1);
        due("how many", x.hardest(2, 1), 1);
        due("hardest(61, 0)", x.hardest(61, 0), -2);
        due("hardest(-1, 0)", x.hardest(-1, 0), -2);
        due("hardest(0, 2)", x.hardest(0, 2), -2);
        due("hardest(0, -1)", x.hardest(0, -1), -2);
    }

    private static void thickSoles() {
        PebbleInShoe x = Made.pair(0, 0, 4010);
        // by SOLES v: 30 - v + 29 - v is below 30 from 15 on
        due("thick", x.thick(0, 0, 2), 15);
        due("thick, n 0", x.thick(0, 0, 0), 0);
        due("thick, none", x.thick(0, 0, 20), -1);
        due("thick, n 61", x.thick(0, 0, 61), -7);
        due("thick, n -1", x.thick(0, 0, -1), -7);
        due("thick, no JUDGE", x.thick(1, 0, 61), -5);
        due("thick, no PEBBLE", x.thick(0, 1, 61), -5);
        Tape.law(x, "feels 99; wears 0; bars 80;");
        due("thick, 20", x.thick(0, 0, 1), 20);
        Tape.law(x, "feels 99; wears 0; bars 79;");
        due("thick, 21 is none", x.thick(0, 0, 1), -1);
        due("SOLES stay", x.bench(0, 0), 0);
    }

    private static void orders() {
        PebbleInShoe x = new PebbleInShoe();
        x.judge(0);
        due("no PEBBLES", x.order(0, 5, 0), -1);
        due("no PEBBLES", x.order(0, 5, 1), 0);
        due("no PEBBLES", x.order(0, 5, 10), -1);
        due("no PEBBLES", x.order(0, 5, 11), 0);
        Tape.law(x, "feels 50; wears 0; bars 485;");
        x.pebble(59, 5000);
        x.pebble(0, 5000);
        // SOLES are 1 by the second CASE; the GRIT hurts 50 - 9 / 4 then, the PEBBLE 49
        due("the GRIT last", x.order(0, 10, 0), 21);
        due("felt in all", x.order(0, 10, 1), 500 + 480);
        due("GUILTY least", x.order(0, 10, 10), 21);
        due("how many are", x.order(0, 10, 11), 1);
        x.pebble(0, 5000);
        due("of like ones the first", x.order(0, 10, 0), 231);
        due("felt in all", x.order(0, 10, 1), 500 + 490 + 460);
        due("n 0", x.order(0, 0, 0), 123);
        due("goalWhat 2", x.order(0, 5, 2), -7);
        due("goalWhat 9", x.order(0, 5, 9), -7);
        due("goalWhat 12", x.order(0, 5, 12), -7);
        due("goalWhat 20", x.order(0, 5, 20), -7);
        due("goalWhat -1", x.order(0, 5, -1), -7);
        due("n 61", x.order(0, 61, 0), -7);
        due("n -1", x.order(0, -1, 0), -7);
        due("no such JUDGE", x.order(1, 61, 2), -5);
        due("no such JUDGE", x.order(-1, 5, 0), -5);
        due("nothing changed", x.bench(0, 1) + x.bench(0, 2), 0);
    }

    private static void counsels() {
        PebbleInShoe x = new PebbleInShoe();
        x.judge(0);
        due("no PEBBLES", x.counsel(0, 5, 0), 0);
        due("no PEBBLES", x.counsel(0, 5, 1), -1);
        // felt is 0: GUILTY is a CASE behind which MILES are ROUND or more
        Tape.law(x, "feels 0; wears 0; bars miles < round;");
        x.pebble(0, 5010);
        x.pebble(0, 5020);
        x.pebble(0, 5030);
        // at turns of 10, 20, 30 MILES: the first wants all, the second spoils the 30 if it can
        due("as best they can", x.counsel(0, 10, 0), 2);
        due("chosen first", x.counsel(0, 10, 1), 0);
        Tape.law(x, "feels 0; wears 0; bars round < miles;");
        // GUILTY while MILES are at most ROUND: 10 must come first, the other spoils the 20
        due("as best they can", x.counsel(0, 10, 0), 2);
        due("chosen first", x.counsel(0, 10, 1), 0);
        x.put(0, 1, 20);
        x.put(1, 1, 30);
        x.put(2, 1, 10);
        Tape.law(x, "feels 0; wears 0; bars miles < round;");
        // the 20 first: the other hears the 30 too early; the 30 first: both others are GUILTY
        due("chosen first", x.counsel(0, 10, 1), 1);
        due("as best they can", x.counsel(0, 10, 0), 2);
        due("n 61", x.counsel(0, 61, 0), -7);
        due("n -1", x.counsel(0, -1, 0), -7);
        due("what 2", x.counsel(0, 5, 2), -7);
        due("what -1", x.counsel(0, 5, -1), -7);
        due("no such JUDGE", x.counsel(1, 61, 2), -5);
        due("no such JUDGE", x.counsel(-1, 5, 0), -5);
        due("nothing changed", x.bench(0, 1), 0);
    }

    private static void reversedOnes() {
        PebbleInShoe x = Made.pair(0, 0, 4010);
        x.pebble(0, 3500);
        x.sheet(0, 0, 0);
        due("no CASES", x.reversed(0, 0), -1);
        Tape.row(x, 0, 2, 0, 1, 1, 0, 1, 0);
        // 30, then 29: the PEBBLE is worn by the first
        due("one behind the other", x.reversed(0, 0), -1);
        Tape.row(x, 0, 2, 0, 1, 1, 0, 1, 1);
        due("the second", x.reversed(0, 0), 1);
        Tape.row(x, 0, 1, 0, 1, 0, 0, 1, 1);
        due("the first", x.reversed(0, 0), 0);
        Tape.row(x, 0, 0, 0, 10, 1, 1, 1, 1, 0, 1, 0);
        due("SOLES as they are then: 35 less 1, 20 less 1", x.reversed(0, 0), -1);
        due("nothing changed", x.bench(0, 1) + x.bench(0, 0), 0);
        due("nothing changed", x.told(0, 2), 40);
    }

    private static void refusedDue(PebbleInShoe x, String why, int s, int want) {
        due("reversed, " + why, x.reversed(s, 9), want);
        due("kinds, " + why, x.kinds(s, 9, 9, 9), want);
        due("soled, " + why, x.soled(s, 9), want);
        due("sizes, " + why, x.sizes(s, 9, 9, 9), want);
        due("whose, " + why, x.whose(s), want);
        due("laws, " + why, x.laws(s, 9), want);
    }

    private static void refusedSheets() {
        PebbleInShoe x = Made.pair(0, 0, 4010);
        refusedDue(x, "SHEET 4", 4, -2);
        refusedDue(x, "SHEET -1", -1, -2);
        refusedDue(x, "missing", 0, -11);
        Tape.row(x, 0, 2, 0, 1);
        refusedDue(x, "not by threes", 0, -2);
        Tape.row(x, 0, 2, 0, 1, 1, 0);
        refusedDue(x, "not by threes", 0, -2);
        int[][] wrong = {{1, 1, 1}, {-1, 1, 1}, {0, 61, 1}, {0, -1, 1}, {0, 1, 2}, {0, 1, -1}};
        for (int[] w : wrong) {
            // the first CASE is found otherwise, and yet the second makes it BAD
            Tape.row(x, 1, 2, 0, 1, 0, w[0], w[1], w[2]);
            refusedDue(x, "a number that is none", 1, -2);
        }
        Tape.row(x, 2, 2, 0, 60, 1);
        for (int j = -1; j < 2; j += 2) {
            due("reversed, no such JUDGE", x.reversed(2, j), -5);
            due("kinds, no such JUDGE", x.kinds(2, j, 9, 9), -5);
            due("soled, no such JUDGE", x.soled(2, j), -5);
            due("sizes, no such JUDGE", x.sizes(2, j, 9, 9), -5);
            due("laws, no such JUDGE", x.laws(2, j), -5);
        }
        for (int p = -1; p < 2; p += 2) {
            due("kinds, no such PEBBLE", x.kinds(2, 0, p, 9), -6);
            due("sizes, no such PEBBLE", x.sizes(2, 0, p, 9), -6);
        }
        int[] bad = {2, -1, 9};
        for (int b : bad) {
            due("kinds sort " + b, x.kinds(2, 0, 0, b), -7);
            due("sizes sortWhat " + b, x.sizes(2, 0, 0, b), -7);
            due("sizes sortWhat " + (10 + b), x.sizes(2, 0, 0, 10 + Math.abs(b) * 10), -7);
        }
        due("sizes sortWhat 12", x.sizes(2, 0, 0, 12), -7);
    }

    private static void whatIfs() {
        PebbleInShoe x = Made.pair(4, 5, 4010);
        x.judge(2);
        Tape.row(x, 0, 0, 0, 1, 0);
        // a MILE: 26 as a PEBBLE, 31 as a FLINT, 26 as a SHELL, 62 as a SHARD, 13 as a PEARL, 25 as a GRIT
        due("KINDS by which it isn't GUILTY", x.kinds(0, 0, 0, 0), 0b110101);
        due("MORE does not matter", x.kinds(0, 0, 0, 1), 1023);
        x.pebble(10, 4010);
        Tape.row(x, 1, 2, 1, 1, 0);
        due("MORE by which it isn't", x.kinds(1, 0, 1, 1), 0b1111);
        Tape.row(x, 1, 2, 1, 1, 1);
        due("MORE by which it is", x.kinds(1, 0, 1, 1), 0b1111110000);
        due("of a PEBBLE that isn't told of", x.kinds(1, 0, 0, 1), 0);
        due("MORE stays", x.told(1, 1), 0);
        due("KIND stays", x.told(1, 0), 1);
        x.pebble(0, 4005);
        Tape.row(x, 0, 0, 2, 1, 1);
        due("SOLES by which it is", x.soled(0, 0), 0b111111);
        due("SIZES by which it is", x.sizes(0, 0, 2, 0), 61);
        due("the least", x.sizes(0, 0, 2, 1), 39);
        due("ROUNDS by which it is", x.sizes(0, 0, 2, 10), 7);
        due("the least", x.sizes(0, 0, 2, 11), 0);
        due("of a PEBBLE that isn't told of", x.sizes(0, 0, 0, 0), 100);
        x.shoe(1, 0, 6);
        due("whose", x.whose(0), 0b01);
        Tape.row(x, 0, 0, 2, 1, 0);
        due("whose", x.whose(0), 0b10);
        due("SIZES by which it isn't", x.sizes(0, 0, 2, 0), 39);
        due("ROUNDS by which it isn't: the least", x.sizes(0, 0, 2, 11), 7);
        Tape.text(x, "feels 99; wears 1; bars 30;");
        Tape.text(x, "feels 9; wears 1; bars 30;");
        due("TEXTS by which it isn't", x.laws(0, 1), 0b101);
        due("TEXTS by which it isn't", x.laws(0, 0), 0b100);
        Tape.row(x, 0, 0, 2, 0, 1);
        due("none: least SIZE", x.sizes(0, 0, 2, 1), -1);
        due("none: SIZES", x.sizes(0, 0, 2, 0), 0);
        due("none: SOLES", x.soled(0, 0), 0);
        due("none: JUDGES", x.whose(0), 0);
        due("none: TEXTS", x.laws(0, 0), 0);
        due("THE LAW stays", x.count(3), 0);
        due("SOLES stay", x.bench(0, 0), 4);
        due("SIZE stays", x.told(2, 2), 40);
        due("ROUND stays", x.told(2, 3), 5);
        x.sheet(3, 0, 0);
        due("SOLES by no CASES", x.soled(3, 0), (1 << 21) - 1);
        due("KINDS by no CASES", x.kinds(3, 0, 0, 0), 63);
        due("least ROUND by no CASES", x.sizes(3, 0, 0, 11), 0);
        due("whose, no JUDGES", whoseOfNone(), 0);
    }

    private static int whoseOfNone() {
        PebbleInShoe x = new PebbleInShoe();
        x.sheet(0, 1, 0);
        return x.whose(0);
    }

    private static void films() {
        PebbleInShoe x = Made.pair(0, 0, 4010);
        x.pebble(0, 3101);
        x.pebble(0, 2000);
        Tape.row(x, 0, 1, 300, 300, 300, 300, 300, 300, 300, 300, 300, 300);
        // 40 less 10, 31 less 1, 20
        due("film", x.film(0, 0, 1), 2);
        due("it finds so", x.reversed(0, 0), -1);
        rowDue(x, 0, 0, 0, 1, 1, 1, 1, 1, 2, 1, 0);
        Tape.law(x, "feels 0; wears 0; bars miles < 25;");
        due("one behind the other", x.film(2, 0, 10), 1);
        due("it finds so", x.reversed(2, 0), -1);
        due("in thought", x.bench(0, 1), 0);
        due("in thought", x.told(0, 2), 40);
        due("SHEET 4", x.film(4, 9, 61), -2);
        due("SHEET -1", x.film(-1, 0, 1), -2);
        due("no such JUDGE", x.film(0, 1, 61), -5);
        due("no such JUDGE", x.film(0, -1, 1), -5);
        due("n 61", x.film(1, 0, 61), -7);
        due("n -1", x.film(1, 0, -1), -7);
        due("it stays missing", x.cell(1, 0, 0), -11);
        PebbleInShoe none = new PebbleInShoe();
        none.judge(0);
        due("no PEBBLES", none.film(0, 0, 1), 0);
        due("a row of none", none.cell(0, 0, 0), -12);
        due("no CASES", none.reversed(0, 0), -1);
    }

    private static void lots() {
        PebbleInShoe x = Made.pair(3, 0, 4010);
        // LOTS of SEED 0: 48271, 182605794; modulo 4: 3, 2
        due("SIZE behind a LOT", x.drawn(0, 0, 0, 301, 1), 40 - 1 - 3);
        due("SIZE behind two", x.drawn(0, 0, 0, 302, 1), 40 - 2 - 5);
        due("felt", x.drawn(0, 0, 0, 302, 0), 27 + 23);
        due("GUILTY", x.drawn(0, 0, 0, 302, 2), 1);
        due("not GUILTY", x.drawn(0, 0, 0, 301, 2), 0);
        due("most 0", x.drawn(0, 0, 0, 3, 0), 78);
        due("SEED 99999", x.drawn(99999, 0, 0, 901, 1), 40 - 1 - (int) (100000L * 48271 % 2147483647L % 10));
        due("most 9, 60 MILES", x.drawn(0, 0, 0, 960, 1), 0);
        due("moreMiles 61", x.drawn(0, 0, 0, 61, 0), -7);
        due("moreMiles 961", x.drawn(0, 0, 0, 961, 0), -7);
        due("moreMiles 1000", x.drawn(0, 0, 0, 1000, 0), -7);
        due("moreMiles -1", x.drawn(0, 0, 0, -1, 0), -7);
        due("SEED 100000", x.drawn(100000, 0, 0, 0, 0), -7);
        due("SEED -1", x.drawn(-1, 0, 0, 0, 0), -7);
        due("what 3", x.drawn(0, 0, 0, 0, 3), -7);
        due("what -1", x.drawn(0, 0, 0, 0, -1), -7);
        due("no such JUDGE", x.drawn(-1, 1, 0, 61, 3), -5);
        due("no such PEBBLE", x.drawn(-1, 0, 1, 61, 3), -5);
        due("in thought", x.told(0, 2), 40);
        oddsDue(x);
    }

    private static void oddsDue(PebbleInShoe x) {
        // 27 + 26 less the first LOT's modulo 10 is 46 or more: by SEEDS whose LOT is 7 or less
        Tape.law(x, "feels size - round; wears 1; bars 46;");
        int guilty = 0;
        for (int seed = 99998; seed < 100006; seed++) {
            guilty += (seed + 1L) * 48271 % 2147483647L % 10 <= 7 ? 1 : 0;
        }
        due("GUILTY by some", guilty > 0 && guilty < 8 ? 1 : 0, 1);
        int by = guilty % 4 == 0 ? 4 : guilty % 2 == 0 ? 2 : 1;
        due("above the line", x.odds(99998, 8, 0, 0, 902, 0), guilty / by);
        due("below the line", x.odds(99998, 8, 0, 0, 902, 1), 8 / by);
        due("by none: above", x.odds(0, 40, 0, 0, 0, 0), 0);
        due("by none: below", x.odds(0, 40, 0, 0, 0, 1), 1);
        due("by all: above", x.odds(0, 40, 0, 0, 2, 0), 1);
        due("by all: below", x.odds(0, 1, 0, 0, 2, 1), 1);
        long no = PebbleInShoe.NO;
        due("seeds 0", x.odds(0, 0, 0, 0, 0, 0), no);
        due("seeds 41", x.odds(0, 41, 0, 0, 0, 0), no);
        due("SEED -1", x.odds(-1, 1, 0, 0, 0, 0), no);
        due("SEED 100000", x.odds(100000, 1, 0, 0, 0, 0), no);
        due("no such JUDGE", x.odds(0, 1, 1, 0, 0, 0), no);
        due("no such PEBBLE", x.odds(0, 1, 0, 1, 0, 0), no);
        due("moreMiles 61", x.odds(0, 1, 0, 0, 61, 0), no);
        due("moreMiles 1000", x.odds(0, 1, 0, 0, 1000, 0), no);
        due("moreMiles -1", x.odds(0, 1, 0, 0, -1, 0), no);
        due("part 2", x.odds(0, 1, 0, 0, 0, 2), no);
        due("part -1", x.odds(0, 1, 0, 0, 0, -1), no);
    }

    private static void images() {
        PebbleInShoe x = Made.pair(3, 17, 4010);
        x.walk(0, 0, 2);
        due("image", x.image(), 1);
        Tape.law(x, "feels 1; wears 1; bars 1;");
        x.judge(9);
        x.pebble(0, 0);
        x.pebble(0, 0);
        x.walk(0, 0, 20);
        x.shoe(0, 0, 19);
        x.put(0, 1, 99);
        Tape.row(x, 0, 0, 5);
        x.feed(1, 'x', 0, 0, 0, 0);
        due("back", x.back(), 1);
        due("PEBBLES", x.count(0), 1);
        due("JUDGES", x.count(1), 1);
        due("TEXTS stay", x.count(2), 2);
        due("THE LAW", x.count(3), 0);
        due("THE TAPE stays", x.count(4), 1);
        due("SHEETS stay", x.cell(0, 0, 0), 1);
        due("SOLES", x.bench(0, 0), 3);
        due("MILES", x.bench(0, 1), 2);
        due("PAIN", x.bench(0, 2), 34 + 33);
        due("SIZE", x.told(0, 2), 38);
        due("ROUND", x.told(0, 3), 10);
        due("KIND", x.told(0, 0), 1);
        due("MORE", x.told(0, 1), 7);
        due("no such PEBBLE", x.told(1, 0), -5);
        due("no such JUDGE", x.bench(1, 0), -5);
        due("a new JUDGE", x.judge(1), 1);
        due("his MILES", x.bench(1, 1), 0);
        due("his PAIN", x.bench(1, 2), 0);
        due("a new PEBBLE", x.pebble(45, 607), 1);
        due("its KIND", x.told(1, 0), 4);
        due("back again", x.back(), 1);
        due("PEBBLES", x.count(0), 1);
        x.pebble(0, 1);
        due("a second image", x.image(), 2);
        x.put(0, 0, 1);
        due("back to that", x.back(), 2);
        due("SIZE", x.told(0, 2), 38);
    }

    private static void sheets() {
        PebbleInShoe x = Made.pair(0, 0, 4010);
        due("SHEET 4", x.sheet(4, 0, -1), -2);
        due("SHEET -1", x.sheet(-1, 0, 1), -2);
        due("sort 3", x.sheet(0, 3, -1), -2);
        due("sort -2", x.sheet(0, -2, 1), -2);
        due("n 41", x.sheet(0, 0, 41), -2);
        due("n -1", x.sheet(0, 0, -1), -14);
        due("missing still", x.cell(0, 0, 0), -11);
        due("sort -1 of SHEET 4", x.sheet(4, -1, 0), -2);
        due("n 40", x.sheet(0, 2, 40), 1);
        due("cell 39", x.cell(0, 39, 7), 1);
        due("cell 40", x.cell(0, 40, 7), -12);
        due("cell -1", x.cell(0, -1, 7), -12);
        due("cell of SHEET 4", x.cell(4, 40, 7), -2);
        due("cell of SHEET -1", x.cell(-1, 0, 7), -2);
        due("cell of a missing one", x.cell(1, 40, 7), -11);
        due("missing, n 41", x.sheet(0, -1, 41), 1);
        due("cell of it", x.cell(0, 0, 0), -11);
        due("missing again", x.sheet(0, -1, -7), 1);
        Tape.row(x, 0, 2, 5, 5, 5);
        due("a row anew", x.sheet(0, 2, 3), 1);
        due("all 0", x.reversed(0, 0), -1);
        // lowest bits: 256 is 0 of bytes, 65536 + 1 is 1 of shorts
        Tape.row(x, 0, 0, 256, 257, 513);
        due("bytes", x.reversed(0, 0), -1);
        Tape.row(x, 0, 1, 65536, 65537, 131073);
        due("shorts", x.reversed(0, 0), -1);
        Tape.row(x, 0, 1, 256, 1, 1);
        due("shorts have 16 bits", x.reversed(0, 0), -2);
        Tape.row(x, 0, 2, 65536, 1, 1);
        due("ints", x.reversed(0, 0), -2);
        Tape.row(x, 0, 0, 0, 1, 255);
        due("a byte 255", x.reversed(0, 0), -2);
    }

    private static void copies() {
        PebbleInShoe x = new PebbleInShoe();
        Tape.row(x, 0, 2, 0, 1, 2, 3, 4, 5);
        Tape.row(x, 1, 2, 7, 7, 7);
        Tape.row(x, 2, 0, 7, 7, 7);
        due("SHEET 4", x.copy(4, 9, 3, 9, -1), -2);
        due("SHEET -1", x.copy(3, 9, -1, 9, -1), -2);
        due("SHEETS 4", x.copy(0, 0, 4, 0, 0), -2);
        due("missing", x.copy(3, 9, 2, 9, -1), -11);
        due("missing", x.copy(2, 9, 3, 9, -1), -11);
        due("unlike sorts", x.copy(0, 9, 2, 9, -1), -13);
        due("n -1", x.copy(0, 0, 1, 0, -1), -12);
        due("i -1", x.copy(0, -1, 1, 0, 1), -12);
        due("j -1", x.copy(0, 0, 1, -1, 1), -12);
        due("from outside", x.copy(1, 0, 0, 0, 4), -12);
        due("to outside", x.copy(0, 0, 1, 0, 4), -12);
        due("n too large", x.copy(0, 1, 1, 1, Integer.MAX_VALUE), -12);
        due("n least", x.copy(0, 1, 1, 1, Integer.MIN_VALUE), -12);
        due("i too large", x.copy(0, Integer.MAX_VALUE, 1, 1, 1), -12);
        due("n 0 at the end", x.copy(0, 6, 1, 3, 0), 0);
        due("n 0 behind it", x.copy(0, 7, 1, 3, 0), -12);
        rowDue(x, 0, 2, 0, 1, 2, 3, 4, 5);
        rowDue(x, 1, 2, 7, 7, 7);
        due("its own, to the right", x.copy(0, 0, 0, 1, 4), 4);
        rowDue(x, 0, 2, 0, 0, 1, 2, 3, 5);
        due("its own, to the left", x.copy(0, 2, 0, 1, 4), 4);
        rowDue(x, 0, 2, 0, 1, 2, 3, 5, 5);
        due("another's", x.copy(0, 3, 1, 1, 2), 2);
        rowDue(x, 1, 2, 7, 3, 5);
        rowDue(x, 0, 2, 0, 1, 2, 3, 5, 5);
        due("all of it", x.copy(1, 0, 0, 3, 3), 3);
        rowDue(x, 0, 2, 0, 1, 2, 7, 3, 5);
        Tape.row(x, 2, 1, 9999, 65536 + 123);
        rowDue(x, 2, 1, 9999, 123);
        Tape.row(x, 2, 2, 9999, 123);
        rowDue(x, 2, 2, 9999, 123);
        Tape.row(x, 2, 0, 127, 256 + 99);
        rowDue(x, 2, 0, 127, 99);
    }

    /** The numbers of a SHEET, each read by a PEBBLE that comes by it, and goes with AN IMAGE. SHEET 3 is spent. */
    private static void rowDue(PebbleInShoe x, int s, int sort, int... want) {
        x.image();
        for (int i = 0; i < want.length; i++) {
            x.sheet(3, sort, 2);
            x.copy(s, i, 3, 1, 1);
            int p = x.count(0);
            x.pebblesBy(3, sort, 0, 1);
            due("number " + i + " of SHEET " + s, 100 * x.told(p, 2) + x.told(p, 3), want[i]);
            x.back();
        }
        due("the size of SHEET " + s, x.cell(s, want.length, 0), -12);
    }

    private static void pebblesBySheets() {
        PebbleInShoe x = new PebbleInShoe();
        Tape.row(x, 0, 1, 34, 5678, 60, 0, 12, 9999, 0);
        due("SHEET 4", x.pebblesBy(4, 2, 0, 1), -2);
        due("SHEET -1", x.pebblesBy(-1, 2, 0, 1), -2);
        due("sort 3", x.pebblesBy(1, 3, 0, 1), -2);
        due("sort -1", x.pebblesBy(1, -1, 0, 1), -2);
        due("n 7", x.pebblesBy(1, 1, 0, 7), -2);
        due("n -1", x.pebblesBy(1, 1, 0, -1), -2);
        due("missing", x.pebblesBy(1, 1, 99, 1), -11);
        due("another sort", x.pebblesBy(0, 2, 99, 1), -13);
        due("outside", x.pebblesBy(0, 1, 7, 1), -12);
        due("half outside", x.pebblesBy(0, 1, 6, 1), -12);
        due("half outside ahead", x.pebblesBy(0, 1, -1, 1), -12);
        due("far outside", x.pebblesBy(0, 1, Integer.MAX_VALUE, 6), -12);
        due("n 0", x.pebblesBy(0, 1, 0, 0), 0);
        due("none came", x.count(0), 0);
        due("one of them is left out", x.pebblesBy(0, 1, 0, 3), 2);
        due("KIND", x.told(0, 0), 3);
        due("MORE", x.told(0, 1), 4);
        due("SIZE", x.told(0, 2), 56);
        due("ROUND", x.told(0, 3), 78);
        due("KIND", x.told(1, 0), 1);
        due("SIZE", x.told(1, 2), 99);
        due("what stood ahead came", x.pebblesBy(0, 1, 4, 2), -12);
        due("one", x.count(0), 3);
        due("from 1 on: 5678 is none, 0 and 12 is one", x.pebblesBy(0, 1, 1, 2), 1);
        Tape.row(x, 1, 0, 0, 1, 0, 2, 0, 3, 0, 200);
        due("of three two have room", x.pebblesBy(1, 0, 0, 3), 2);
        due("the last", x.told(5, 3), 2);
        due("FULL, and outside", x.pebblesBy(1, 0, 2, 4), -12);
        PebbleInShoe y = new PebbleInShoe();
        Tape.row(y, 0, 0, 0, 127, 0, 128);
        due("a byte 128 is below 0", y.pebblesBy(0, 0, 0, 2), 1);
    }

    private static void takenOnes() {
        PebbleInShoe x = Made.pair(0, 0, 4010);
        for (int kind = 1; kind <= 5; kind++) {
            x.pebble(10 * kind, 4010);
        }
        x.judge(0);
        x.walk(1, 0, 2);
        // by KIND: which kinds it is
        String[] kinds = {"0", "01", "02", "013", "024", "05"};
        for (int i = 0; i <= 5; i++) {
            for (int kind = 0; kind <= 6; kind++) {
                boolean is = kinds[i].indexOf((char) ('0' + kind)) >= 0;
                due("taken(" + i + ", " + kind + ")", x.taken(i, kind), is ? i : -13);
            }
        }
        due("a JUDGE", x.taken(6, 6), 0);
        due("his PAIN", x.taken(7, 6), 59);
        due("no JUDGE", x.taken(8, 6), -11);
        due("no JUDGE", x.taken(9, 0), -11);
        for (int kind = 0; kind < 6; kind++) {
            due("a JUDGE as a PEBBLE", x.taken(7, kind), -13);
        }
        due("place 10", x.taken(10, 6), -12);
        due("place -1", x.taken(-1, 6), -12);
        due("kind 7", x.taken(10, 7), -2);
        due("kind -1", x.taken(-1, -1), -2);
        due("no PEBBLE", new PebbleInShoe().taken(0, 6), -11);
    }
}
