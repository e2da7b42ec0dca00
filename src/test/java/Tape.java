/** Feeds whole texts. */
final class Tape {
    private Tape() {
    }

    static int feed(PebbleInShoe x, String s) {
        int answer = x.count(4);
        for (int i = 0; i < s.length(); i += 5) {
            int n = Math.min(5, s.length() - i);
            int[] b = new int[5];
            for (int k = 0; k < n; k++) {
                b[k] = s.charAt(i + k);
            }
            answer = x.feed(n, b[0], b[1], b[2], b[3], b[4]);
        }
        return answer;
    }

    /** What text() answers to it. */
    static int text(PebbleInShoe x, String s) {
        feed(x, s);
        return x.text();
    }

    /** That text is THE LAW from here on. */
    static void law(PebbleInShoe x, String s) {
        int t = text(x, s);
        Check.holds("\"" + s + "\" is a text", t >= 0);
        x.force(t);
    }

    static void row(PebbleInShoe x, int s, int sort, int... numbers) {
        x.sheet(s, sort, numbers.length);
        for (int i = 0; i < numbers.length; i++) {
            x.cell(s, i, numbers[i]);
        }
    }
}
