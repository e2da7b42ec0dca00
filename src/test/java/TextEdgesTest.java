/** The Terms of a TEXT: TOKENS, FAULTS, how an E is built and what it comes to; each boundary by a test of its own. */
final class TextEdgesTest {
    private static final String BEHIND = ";wears 1;bars 1;";

    private TextEdgesTest() {
    }

    static void run() {
        tapeIsFull();
        letters();
        digits();
        signs();
        blanks();
        bytesThatBeginNone();
        words();
        numbers();
        threeParts();
        endsTooEarly();
        oneCompare();
        whatCanStandThere();
        fiveOpen();
        tillTheyEnd();
        nothingIsLeftOfAFault();
        oneOrZero();
        whatIsNotZeroIsTrue();
        orders();
        wraps();
        elseTheBound();
        sixTexts();
    }

    private static void fault(String s, int place) {
        PebbleInShoe x = new PebbleInShoe();
        Check.due("FAULT of \"" + s + "\"", Tape.text(x, s), -100 - place);
        Check.due("THE TAPE is empty by a FAULT", x.count(4), 0);
        Check.due("a FAULT is no TEXT", x.count(2), 1);
    }

    private static void stands(String s) {
        PebbleInShoe x = new PebbleInShoe();
        Check.due("TEXT \"" + s + "\"", Tape.text(x, s), 1);
        Check.due("THE TAPE is empty by a TEXT", x.count(4), 0);
        Check.due("it is a TEXT", x.count(2), 2);
    }

    /** An E that can't stand for the byte at that place of it. */
    private static void faultOf(String e, int place) {
        fault("feels " + e + BEHIND, 6 + place);
        fault("feels 1;wears " + e + ";bars 1;", 14 + place);
        fault("feels 1;wears 1;bars " + e + ";", 21 + place);
    }

    private static void standsAs(String e) {
        stands("feels " + e + BEHIND);
        stands("feels 1;wears " + e + ";bars 1;");
        stands("feels 1;wears 1;bars " + e + ";");
    }

    private static void tapeIsFull() {
        String text = "feels 1" + BEHIND;
        stands(text + " ".repeat(160 - text.length()));
        PebbleInShoe x = new PebbleInShoe();
        Tape.feed(x, text + " ".repeat(160 - text.length()));
        Check.due("160 bytes at most", x.feed(1, 32, 0, 0, 0, 0), -4);
        Check.due("160 bytes", x.count(4), 160);
        Check.due("and they are a TEXT", x.text(), 1);
        Check.due("empty then", x.feed(1, 32, 0, 0, 0, 0), 1);
    }

    private static void letters() {
        standsAs("size");
        // 96 and 123 are beside a .. z
        faultOf("`", 0);
        faultOf("{", 0);
        faultOf("size`", 4);
        faultOf("size{", 4);
        faultOf("S", 0);
        faultOf("siZe", 0);
        faultOf("sizE", 0);
        faultOf("sizeE", 4);
        faultOf("size_", 4);
        faultOf("" + (char) 228, 0);
        faultOf("size" + (char) 255, 4);
        faultOf("a", 0);
        faultOf("z", 0);
        faultOf("zz", 0);
    }

    private static void digits() {
        standsAs("0");
        standsAs("9");
        standsAs("1234");
        standsAs("5678");
        // 47 and 58 are beside 0 .. 9
        faultOf("/", 0);
        faultOf(":", 0);
        faultOf("1/", 1);
        faultOf("1:", 1);
        faultOf("1.5", 1);
        faultOf("1,5", 1);
    }

    private static void signs() {
        String others = "!\"#$%&',./:>?@[\\]^_`{|}~";
        for (int i = 0; i < others.length(); i++) {
            faultOf("" + others.charAt(i), 0);
            faultOf("1 " + others.charAt(i) + " 1", 2);
            fault("feels 1" + BEHIND + others.charAt(i), 7 + BEHIND.length());
        }
        standsAs("(1+2)-3*4<5");
        standsAs("1=2");
        // each SIGN is one byte
        faultOf("1<=2", 2);
        faultOf("1==2", 2);
        faultOf("1**2", 2);
        faultOf("1++2", 2);
        standsAs("1--2");
        standsAs("((1))");
    }

    private static void blanks() {
        standsAs(" 1 ");
        standsAs("\n1\n");
        standsAs(" \n \n1 \n");
        standsAs("1 + 2");
        standsAs("1\n+\n2");
        stands(" feels 1" + BEHIND + " ");
        stands("\nfeels\n1" + BEHIND + "\n");
        stands("feels(1)" + BEHIND);
        int[] others = {0, 1, 8, 9, 11, 12, 13, 14, 31, 127, 128, 160, 255};
        for (int b : others) {
            faultOf((char) b + "1", 0);
            faultOf("1" + (char) b, 1);
        }
        // TOKENS need none between where they end by themselves
        stands("feels 1;wears 1;bars 1;");
        standsAs("not(1)or(2)and(3)");
        standsAs("1or 2");
        faultOf("1or2size", 4);
        standsAs("1or 2and 3");
    }

    private static void bytesThatBeginNone() {
        String begin = "abcdefghijklmnopqrstuvwxyz0123456789();+-*<= \n";
        for (int b = 0; b < 256; b++) {
            char c = (char) b;
            if (begin.indexOf(c) < 0) {
                faultOf("" + c, 0);
                faultOf("1" + c, 1);
                faultOf("1 +" + c + "2", 3);
                fault(c + "feels 1" + BEHIND, 0);
                fault("feels 1" + BEHIND + c, 7 + BEHIND.length());
            }
        }
    }

    private static void words() {
        for (String name : new String[] {"size", "round", "soles", "miles", "more", "judge"}) {
            standsAs(name);
            faultOf(name + "s", 0);
            faultOf("x" + name, 0);
            faultOf("x" + name.substring(1), 0);
            faultOf(name.substring(0, name.length() - 1) + "x", 0);
            faultOf(name.substring(1), 0);
            faultOf(name.substring(0, name.length() - 1), 0);
            faultOf(name + name, 0);
            faultOf(name + " " + name, name.length() + 1);
            faultOf(name + "1", name.length());
        }
        for (String key : new String[] {"feels", "wears", "bars", "or", "and"}) {
            faultOf(key, 0);
            faultOf("1 + " + key, 4);
            faultOf("(" + key + ")", 1);
        }
        for (String key : new String[] {"feels", "wears", "bars", "not"}) {
            faultOf("1 " + key, 2);
            faultOf("1 " + key + " 1", 2);
        }
        fault("xeels 1" + BEHIND, 0);
        fault("feelx 1" + BEHIND, 0);
        fault("feels 1;xears 1;bars 1;", 8);
        fault("feels 1;wears 1;xars 1;", 16);
        faultOf("1 xr 1", 2);
        faultOf("1 xnd 1", 2);
        faultOf("xot 1", 0);
        // as long as can be
        fault("feelssize" + BEHIND, 0);
        fault("feels1" + BEHIND + "x", 6 + BEHIND.length());
        stands("feels1" + BEHIND);
        faultOf("sizeor 1", 0);
        faultOf("notsize", 0);
        faultOf("1 orsize", 2);
        // a WORD that is none is not as the TOKEN ahead of it
        faultOf("-foo 1", 1);
        faultOf("(foo 1)", 1);
        faultOf("not foo 1", 4);
        faultOf("1 or foo 1", 5);
        faultOf("1 + foo 1", 4);
        fault("feels foo 1" + BEHIND, 6);
        fault("feels 1;foo wears 1;bars 1;", 8);
        fault("foo feels 1" + BEHIND, 0);
        fault("feels 1" + BEHIND + " foo", 8 + BEHIND.length());
    }

    private static void numbers() {
        standsAs("9999");
        standsAs("0009");
        faultOf("10000", 0);
        faultOf("00009", 0);
        faultOf("123456", 0);
        faultOf("99999999999", 0);
        faultOf("1 + 12345", 4);
        faultOf("1 2", 2);
        faultOf("1234 5", 5);
        faultOf("12345 +", 0);
        Check.due("0009 is 9", barsOf("0009"), 9);
        Check.due("9999", barsOf("9999"), 9999);
        Check.due("1234", barsOf("1234"), 1234);
    }

    private static void threeParts() {
        stands("feels 1;wears 1;bars 1;");
        fault("wears 1;feels 1;bars 1;", 0);
        fault("bars 1;wears 1;feels 1;", 0);
        fault("feels 1;feels 1;bars 1;", 8);
        fault("feels 1;bars 1;", 8);
        fault("feels 1;wears 1;wears 1;", 16);
        fault("feels 1;wears 1;feels 1;", 16);
        fault("1;wears 1;bars 1;", 0);
        fault(";", 0);
        fault("feels;wears 1;bars 1;", 5);
        fault("feels 1;;wears 1;bars 1;", 8);
        fault("feels 1 wears 1;bars 1;", 8);
        fault("feels 1;wears 1 bars 1;", 16);
        // and nothing behind
        fault("feels 1;wears 1;bars 1;;", 23);
        fault("feels 1;wears 1;bars 1;1", 23);
        fault("feels 1;wears 1;bars 1;\nfeels 1;", 24);
        fault("feels 1;wears 1;bars 1;(", 23);
        fault("feels 1;wears 1;bars 1;-", 23);
    }

    /** Each beginning of a text that stands ends too early, or is cut within a WORD. */
    private static void endsTooEarly() {
        fault("", 0);
        fault(" ", 1);
        fault(" \n ", 3);
        fault("feels", 5);
        fault("feels ", 6);
        fault("feels  \n", 8);
        fault("feels 1", 7);
        fault("feels 1 ", 8);
        fault("feels 1;", 8);
        fault("feels 1; ", 9);
        fault("feels 1;wears", 13);
        fault("feels 1;wears 1", 15);
        fault("feels 1;wears 1;", 16);
        fault("feels 1;wears 1;bars", 20);
        fault("feels 1;wears 1;bars 1", 22);
        fault("feels 1;wears 1;bars 1 \n", 24);
        for (String e : new String[] {"(", "(1", "-", "not", "1 +", "1 -", "1 *", "1 <", "1 =", "1 or", "1 and",
            "(((((1))))", "1 or not"}) {
            fault("feels " + e, 6 + e.length());
            fault("feels " + e + "  ", 8 + e.length());
        }
        // a WORD that is cut is none
        fault("feel", 0);
        fault("feels siz", 6);
        fault("feels 1;wear", 8);
    }

    private static void oneCompare() {
        standsAs("1 < 2");
        standsAs("1 = 2");
        standsAs("(1 < 2) < 3");
        standsAs("1 = (2 < 3)");
        standsAs("1 < 2 and 3 = 4 or 5 < 6");
        faultOf("1 < 2 < 3", 6);
        faultOf("1 < 2 = 3", 6);
        faultOf("1 = 2 < 3", 6);
        faultOf("1 = 2 = 3", 6);
        faultOf("not 1 < 2 < 3", 10);
        standsAs("not 1 < 2");
    }

    private static void whatCanStandThere() {
        // a NOT within a SUM needs a (
        faultOf("1 + not 1", 4);
        faultOf("1 * not 1", 4);
        faultOf("- not 1", 2);
        faultOf("1 < not 1", 4);
        faultOf("1 = not 1", 4);
        standsAs("1 + (not 1)");
        standsAs("-(not 1)");
        standsAs("1 < (not 1)");
        standsAs("1 or not 1");
        standsAs("1 and not not 1");
        standsAs("(not 1)");
        // nothing behind what wants more
        for (String e : new String[] {"1 +", "1 -", "1 *", "1 <", "1 =", "1 or", "1 and", "not", "-", "1 or not"}) {
            faultOf(e, e.length());
            faultOf("(" + e + ")", 1 + e.length());
        }
        faultOf("(", 1);
        // a SIGN that stands between, ahead of a ONE
        faultOf("+1", 0);
        faultOf("*1", 0);
        faultOf("<1", 0);
        faultOf("=1", 0);
        faultOf(")", 0);
        faultOf("()", 1);
        faultOf("(1))", 3);
        faultOf("(1;)", 2);
        faultOf("1 + * 2", 4);
        faultOf("1 or or 2", 5);
        faultOf("1 and or 2", 6);
        faultOf("1 or and 2", 5);
        faultOf("1 (2)", 2);
        faultOf("(1)(2)", 3);
        faultOf("(1) 2", 4);
        faultOf("(1 2)", 3);
        standsAs("1 * - 2");
        standsAs("1 < - 2");
        standsAs("1 - - 2");
    }

    private static void fiveOpen() {
        standsAs("(((((1)))))");
        faultOf("((((((1))))))", 5);
        standsAs("-----1");
        faultOf("------1", 5);
        standsAs("not not not not not 1");
        faultOf("not not not not not not 1", 20);
        // of all three together
        standsAs("not(-(-1))");
        standsAs("not not(-(1))");
        faultOf("not not(-(-(1)))", placeOfSixth("not not(-(-(1)))"));
        faultOf("not(-(-(1)))", placeOfSixth("not(-(-(1)))"));
        faultOf("(not(-(-1)))", placeOfSixth("(not(-(-1)))"));
        faultOf("-(-(-(1)))", placeOfSixth("-(-(-(1)))"));
        faultOf("(((((not 1)))))", 5);
        faultOf("(((((-1)))))", 5);
        faultOf("----((1))", 5);
        faultOf("not not not not not -1", 20);
        faultOf("not not not not not (1)", 20);
        // it can't stand there, whatever comes behind
        faultOf("((((((", 5);
        faultOf("------", 5);
    }

    /** In such an E all is open till its end: the place of the sixth of ( - not. */
    private static int placeOfSixth(String e) {
        int found = 0;
        for (int i = 0; i < e.length(); i++) {
            char c = e.charAt(i);
            if (c == '(' || c == '-' || c == 'n') {
                found++;
                if (found == 6) {
                    return i;
                }
            }
        }
        return e.length();
    }

    private static void tillTheyEnd() {
        // a ( till its )
        standsAs("(((((1)))))*(((((1)))))");
        standsAs("((((1)*(1))))");
        standsAs("((((-1-(1)))))");
        standsAs("(((((1)*(1)))))");
        faultOf("(((((1*(1))))))", 7);
        standsAs("((((1)+(2)*(3))))");
        // a - till its ONE ends
        standsAs("-----1 + -----1 * -----1 - -----1");
        standsAs("----(1) + ----(1)");
        standsAs("((((-1+-1))))");
        // a not till its NOT ends, behind < and its SUM
        standsAs("not not not not not 1 and not not not not not 1");
        standsAs("not not not not 1 < -1");
        faultOf("not not not not not 1 < -1", 24);
        standsAs("not not not not not 1 < 1 or -----1 < 1");
        faultOf("not not not not 1 + (-1)", 21);
        standsAs("not not not not 1 + (1)");
        faultOf("not not not not not 1 + (1)", 24);
        // a - that stands between opens none
        standsAs("(((((1-1-1-1)))))");
        faultOf("(((((1--1)))))", 7);
        // each part begins with none open
        stands("feels -----1;wears (((((1)))));bars not not not not not 1;");
    }

    private static void nothingIsLeftOfAFault() {
        PebbleInShoe x = Made.pair(0, 0, 9900);
        for (String e : new String[] {"-1", "not 1", "1+1", "1 or 1"}) {
            Tape.text(x, "feels 5;wears 5;bars " + e + ";x");
            Tape.text(x, "feels 5;wears 5;bars " + e);
            Tape.law(x, "feels 5;wears 5;bars 7;");
            Check.due("bars behind the FAULT of " + e, x.asks(2, 0, 0), 7);
        }
        for (String old : new String[] {"7", "a", "s", " ", ";"}) {
            PebbleInShoe y = new PebbleInShoe();
            Tape.text(y, old.repeat(160));
            Check.due("behind a TAPE of " + old, Tape.text(y, "feels 1;wears 1;bars 1"), -122);
            Tape.text(y, old.repeat(160));
            Check.due("behind a TAPE of " + old, Tape.text(y, "feels 1;wears 1;bars size"), -125);
            Tape.text(y, old.repeat(160));
            Check.due("behind a TAPE of " + old, Tape.text(y, "feels 1;wears 1;bar"), -116);
            Tape.text(y, old.repeat(160));
            Check.due("behind a TAPE of " + old, y.text(), -100);
            Tape.text(y, old.repeat(160));
            Check.due("behind a TAPE of " + old, Tape.text(y, "feels 1;wears 1;bars 1;"), 1);
        }
    }

    // ---- values

    private static int barsOf(String e) {
        PebbleInShoe x = Made.pair(3, 0, 4010, "feels 0;wears 0;bars " + e + ";");
        return x.asks(2, 0, 0);
    }

    /** Also of an E below 0, and of 5000 at most. */
    private static void value(String e, int want) {
        Check.due(e, barsOf("4000+(" + e + ")") - 4000, want);
    }

    private static void oneOrZero() {
        value("7 or 0", 1);
        value("0 or 7", 1);
        value("7 or 8", 1);
        value("0 or 0", 0);
        value("7 and 8", 1);
        value("7 and 0", 0);
        value("0 and 7", 0);
        value("0 and 0", 0);
        value("not 7", 0);
        value("not 0", 1);
        value("3 < 4", 1);
        value("4 < 4", 0);
        value("5 < 4", 0);
        value("4 = 4", 1);
        value("5 = 4", 0);
        value("3 = 4", 0);
        value("0 = 0", 1);
        // by itself an E is as it is
        value("7", 7);
        value("-7", -7);
        value("(7)", 7);
    }

    private static void whatIsNotZeroIsTrue() {
        value("-1 or 0", 1);
        value("0 or -1", 1);
        value("-1 and -2", 1);
        value("-1 and 0", 0);
        value("2 and 4", 1);
        value("not -1", 0);
        value("not 2", 0);
        value("not not -5", 1);
    }

    private static void orders() {
        value("10 - 4 - 3", 3);
        value("10 - (4 - 3)", 9);
        value("2 + 3 * 4", 14);
        value("2 * 3 + 4", 10);
        value("- 2 + 3", 1);
        value("- 2 * 3", -6);
        value("-(2 + 3)", -5);
        value("--2", 2);
        value("2 - -3", 5);
        value("1 + 2 < 2 * 2", 1);
        value("4 = 2 + 2", 1);
        value("-3 < -2", 1);
        value("not 1 = 2", 1);
        value("not 0 < 1", 0);
        value("not 0 and 0", 0);
        value("not 1 or 1", 1);
        value("1 or 1 and 0", 1);
        value("0 and 1 or 1", 1);
        value("0 and (1 or 1)", 0);
        value("(1 < 2) + (3 < 4) * 5", 6);
    }

    private static void wraps() {
        // 46341 * 46341 is just above the greatest int, 256 * 256 * 256 * 128 is the least
        value("(4634*10+1)*(4634*10+1) < 0", 1);
        value("(4634*10)*(4634*10) < 0", 0);
        value("256*256*256*128-1 = -(256*256*256*128)-1", 1);
        value("256*256*256*127+256*256*255+256*255+255+1 < 0", 1);
        value("256*256*256*127+256*256*255+256*255+255 < 0", 0);
        value("-(256*256*256*128) < 0", 1);
        value("0-256*256*256*128-1 < 0", 0);
        value("256*256*256*256", 0);
        value("256*256*256*256+7", 7);
        Check.due("the bound of a wrapped one above", barsOf("0-256*256*256*128-1"), 9999);
        Check.due("the bound of a wrapped one below", barsOf("256*256*256*128"), 0);
    }

    private static void elseTheBound() {
        int[] most = {99, 20, 9999};
        for (int part = 0; part < 3; part++) {
            int m = most[part];
            boundOf(part, "" + m, m);
            boundOf(part, m - 1 + "", m - 1);
            boundOf(part, m + "+1", m);
            boundOf(part, "9999*9999", m);
            boundOf(part, "0", 0);
            boundOf(part, "1", 1);
            boundOf(part, "-1", 0);
            boundOf(part, "-9999*9999", 0);
        }
    }

    private static void boundOf(int part, String e, int want) {
        String[] parts = {"7", "7", "7"};
        parts[part] = e;
        PebbleInShoe x = Made.pair(0, 0, 9900, "feels " + parts[0] + ";wears " + parts[1] + ";bars " + parts[2] + ";");
        for (int other = 0; other < 3; other++) {
            Check.due("part " + other + " where " + part + " is " + e, x.asks(other, 0, 0), other == part ? want : 7);
        }
    }

    private static void sixTexts() {
        PebbleInShoe x = Made.pair(0, 0, 9900);
        for (int t = 1; t < 6; t++) {
            Check.due("TEXTS from 0 on", Tape.text(x, "feels " + t + BEHIND), t);
        }
        Check.due("6 at most", Tape.text(x, "feels 6" + BEHIND), -4);
        Check.due("6 at most", x.count(2), 6);
        for (int t = 1; t < 6; t++) {
            x.force(t);
            Check.due("TEXT " + t, x.asks(0, 0, 0), t);
        }
    }
}
