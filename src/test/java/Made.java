/** Objects as the tests want them, and what several tests ask of them. */
final class Made {
    private Made() {
    }

    /** A JUDGE with such SOLES, a PEBBLE of such a KIND. */
    static PebbleInShoe pair(int soles, int kindMore, int sizeRound) {
        PebbleInShoe x = judges(soles);
        x.pebble(kindMore, sizeRound);
        return x;
    }

    static PebbleInShoe pair(int soles, int kindMore, int sizeRound, String law) {
        PebbleInShoe x = pair(soles, kindMore, sizeRound);
        Tape.law(x, law);
        return x;
    }

    /** JUDGES with such SOLES. */
    static PebbleInShoe judges(int... soles) {
        PebbleInShoe x = new PebbleInShoe();
        for (int v : soles) {
            x.judge(v);
        }
        return x;
    }

    /** So many PEBBLES of KIND 0, SIZE 50, with such ROUNDS. */
    static void rounds(PebbleInShoe x, int... rounds) {
        for (int v : rounds) {
            x.pebble(0, 5000 + v);
        }
    }

    /** 0, 1, 2 as of sheet(); -1: it is missing. */
    static int sort(PebbleInShoe x, int s) {
        for (int sort = 0; sort <= 2; sort++) {
            if (x.pebblesBy(s, sort, 0, 0) == 0) {
                return sort;
            }
        }
        return -1;
    }

    /** How many numbers a SHEET has, by copies onto their own places. */
    static int size(PebbleInShoe x, int s) {
        int n = 0;
        while (x.copy(s, n, s, n, 1) == 1) {
            n++;
        }
        return n;
    }

    /**
     * Number i of a SHEET, if a PEBBLE can come by it; else -1. THE IMAGE must leave room for a PEBBLE, all is as it
     * keeps it then; SHEET 3 is spent.
     */
    static int number(PebbleInShoe x, int s, int i) {
        int sort = sort(x, s);
        x.sheet(3, sort, 2);
        x.copy(s, i, 3, 1, 1);
        int p = x.back();
        int came = x.pebblesBy(3, sort, 0, 1);
        int v = came == 1 ? 100 * x.told(p, 2) + x.told(p, 3) : -1;
        x.back();
        return v;
    }
}
