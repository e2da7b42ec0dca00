/** Promises 6 to 9: THE TAPE, TEXTS, their FAULTS, what an E comes to. */
final class TextTest {
    private TextTest() {
    }

    static void run() {
        faults();
        fullTapes();
        openOnes();
        values();
        parts();
        bounds();
        fullTexts();
    }

    private static void fault(String s, int place) {
        PebbleInShoe x = new PebbleInShoe();
        Check.due("text of \"" + s + "\"", Tape.text(x, s), -100 - place);
        Check.due("TEXTS behind a FAULT", x.count(2), 1);
        Check.due("THE TAPE behind a FAULT", x.count(4), 0);
    }

    private static void stands(String s) {
        PebbleInShoe x = new PebbleInShoe();
        Check.due("text of \"" + s + "\"", Tape.text(x, s), 1);
        Check.due("TEXTS behind \"" + s + "\"", x.count(2), 2);
        Check.due("THE TAPE behind a TEXT", x.count(4), 0);
    }

    private static void faults() {
        fault("", 0);
        fault("  \n", 3);
        fault("feel", 0);
        fault("feels", 5);
        fault("feels size - round ; wears 1 ; bars 3", 37);
        fault("feels xize; wears 1; bars 1;", 6);
        fault("feels 1; wears 1; bars 1 xr 1;", 25);
        fault("feels 1; wears 1; bars 1; $", 26);
        fault("feels 1; wears 1; bars 1; 12345", 26);
        fault("feels 1", 7);
        fault("feels 1 ", 8);
        fault("feels 1; wears 1; bars 1", 24);
        fault("feels 1; wears 1;", 17);
        fault("wears 1; feels 1; bars 1;", 0);
        fault("feels 1; bars 1; wears 1;", 9);
        fault("feels 1; feels 1; bars 1;", 9);
        fault("feels 1; wears 1; bars 1; ;", 26);
        fault("feels 1; wears 1; bars 1; feels", 26);
        fault("feels ; wears 1; bars 1;", 6);
        fault("feels 12345; wears 1; bars 1;", 6);
        fault("feels 00001; wears 1; bars 1;", 6);
        fault("feels 1 2; wears 1; bars 1;", 8);
        fault("feels 1size; wears 1; bars 1;", 7);
        fault("feels sizes; wears 1; bars 1;", 6);
        fault("feelssize; wears 1; bars 1;", 0);
        fault("feels Size; wears 1; bars 1;", 6);
        fault("feels siZe; wears 1; bars 1;", 6);
        fault("feels si ze; wears 1; bars 1;", 6);
        fault("feels sizeX; wears 1; bars 1;", 10);
        fault("feels 1\t; wears 1; bars 1;", 7);
        fault("feels 1\r; wears 1; bars 1;", 7);
        fault("feels 1 / 2; wears 1; bars 1;", 8);
        fault("feels 1 > 2; wears 1; bars 1;", 8);
        fault("feels " + (char) 233 + "; wears 1; bars 1;", 6);
        fault("feels " + (char) 0 + "; wears 1; bars 1;", 6);
        fault("feels 1 < 2 < 3; wears 1; bars 1;", 12);
        fault("feels 1 = 2 < 3; wears 1; bars 1;", 12);
        fault("feels 1 + not 2; wears 1; bars 1;", 10);
        fault("feels - not 2; wears 1; bars 1;", 8);
        fault("feels 1 < not 2; wears 1; bars 1;", 10);
        fault("feels 1 * + 2; wears 1; bars 1;", 10);
        fault("feels + 2; wears 1; bars 1;", 6);
        fault("feels (1; wears 1; bars 1;", 8);
        fault("feels 1); wears 1; bars 1;", 7);
        fault("feels (); wears 1; bars 1;", 7);
        fault("feels 1 or; wears 1; bars 1;", 10);
        fault("feels 1 and or 1; wears 1; bars 1;", 12);
        fault("feels or 1; wears 1; bars 1;", 6);
        fault("feels bars; wears 1; bars 1;", 6);
        fault("feels 1; wears 1; bars not;", 26);
        fault("feels 1 size; wears 1; bars 1;", 8);
        fault("feels 1 (2); wears 1; bars 1;", 8);
        stands("feels 1;wears 1;bars 1;");
        stands("\n feels\n1 ;wears(1);bars-1;\n ");
        stands("feels 9999; wears 0000; bars 0;");
        stands("feels size+round-soles*miles;wears more<judge;bars not size=1 and 2 or 3;");
    }

    private static void fullTapes() {
        fault("a".repeat(160), 0);
        fault("7".repeat(160), 0);
        fault(" ".repeat(160), 160);
        fault("feels " + "(".repeat(154), 11);
        fault("feels 1" + "+1".repeat(76) + "+", 160);
        fault("feels 1;wears 1;bars 1" + " ".repeat(138), 160);
        stands("feels 1;wears 1;bars 1;" + " ".repeat(137));
        stands("feels 1;wears 1;bars  " + "1+".repeat(68) + "1;");
    }

    private static String feels(String e) {
        return "feels " + e + ";wears 1;bars 1;";
    }

    private static void openOnes() {
        stands(feels("(((((1)))))"));
        fault(feels("((((((1))))))"), 11);
        stands(feels("-----1"));
        fault(feels("------1"), 11);
        stands(feels("not not not not not 1"));
        fault(feels("not not not not not not 1"), 26);
        stands(feels("-(not(-1))"));
        stands(feels("-(not(-1+2))"));
        fault(feels("-(not(-(1)))"), 13 + 0);
        stands(feels("not(not(-1))"));
        fault(feels("not(not(--1))"), 15);
        fault(feels("not(not(-(1)))"), 15);
        // what they belong to has ended
        stands(feels("-----1*-----1+-----1"));
        stands(feels("(((((1)))))+(((((1)))))"));
        stands(feels("not 1 and not 1 and not 1 and not 1 and not 1 and not 1"));
        stands(feels("1-1-1-1-1-1-1-1"));
        // a not is open to the end of its SUM, < and SUM
        stands(feels("not 1<----1"));
        fault(feels("not 1<-----1"), 16);
        stands(feels("not 1<2 and -----1"));
        stands(feels("((((1-1))))*((((-1))))"));
        stands(feels("((((-1-1))))"));
        fault(feels("(((((-1)))))"), 11);
        stands(feels("(((((1-1)))))"));
    }

    /** What an E comes to, by bars (0 .. 9999). */
    private static void value(String e, int want) {
        PebbleInShoe x = new PebbleInShoe();
        x.judge(1);
        x.judge(7);
        x.pebble(34, 5060);
        x.shoe(1, 1, 800);
        Tape.law(x, "feels 0;wears 0;bars " + e + ";");
        Check.due(e, x.asks(2, 1, 0), want);
    }

    private static void values() {
        value("size", 50);
        value("round", 60);
        value("soles", 7);
        value("miles", 800);
        value("more", 4);
        value("judge", 1);
        value("2+3*4", 14);
        value("(2+3)*4", 20);
        value("20-5-3", 12);
        value("20-(5-3)", 18);
        value("2*3*4", 24);
        value("9+-4", 5);
        value("9--4", 13);
        value("9- - -4", 5);
        value("-2*-3", 6);
        value("5 or 0", 1);
        value("0 or 0", 0);
        value("0 or -7", 1);
        value("5 and 7", 1);
        value("5 and 0", 0);
        value("1 or 0 and 0", 1);
        value("(1 or 0) and 0", 0);
        value("0 and 0 or 1", 1);
        value("5", 5);
        value("(5)", 5);
        value("not 5", 0);
        value("not 0", 1);
        value("not not 5", 1);
        value("not 5 < 3", 1);
        value("(not 5) < 3", 1);
        value("not 0 = 0", 0);
        value("not 1 and 0", 0);
        value("not (1 and 0)", 1);
        value("not 0 or 1", 1);
        value("3 < 4", 1);
        value("4 < 4", 0);
        value("5 < 4", 0);
        value("4 = 4", 1);
        value("4 = 5", 0);
        value("-4 < 3", 1);
        value("3 + 2 < 2 * 3", 1);
        value("1 < 2 and 2 < 1", 0);
        value("1 or 1 or 0", 1);
        value("1 and 1 and 0", 0);
        value("(3 < 4) + (4 < 5) + (5 = 5)", 3);
        // wrapping: 65536 * 65536 is 0, 65536 * 32768 is the least int
        value("256*256*256*256+5", 5);
        value("256*256*256*128<0", 1);
        value("256*256*256*128-1", 9999);
        value("9999*9999*9999+0*1", 9999 * 9999 * 9999 < 0 ? 0 : 9999);
        value("-(256*256*256*128)<0", 1);
        value("1+(2+(3+(4+(5+6))))", 21);
        // as many operands wait as can: five in each of six brackets
        String waiting = "0or1and0<0+1*";
        value((waiting + "(").repeat(5) + waiting + "7" + ")".repeat(5), 1);
        value((waiting + "(").repeat(5) + waiting + "0" + ")".repeat(5), 0);
        value("0 or 0 and 0<0+0*(0 or 1 and 1<1+1*(0 or 1 and 1<1+1*(0 or 1 and 1<1+1*(1 or 1 and 1<1+1*1))))", 0);
        value("1 or 1 and 0<0+1*(1 or 1 and 0<0+1*(1 or 1 and 0<0+1*(1 or 1 and 0<0+1*(1 or 1 and 0<0+1*(1)))))", 1);
        value("0 or 1 and 0<0+1*(0 or 1 and 0<0+1*(0 or 1 and 0<0+1*(0 or 1 and 0<0+1*(0 or 1 and 0<0+1*(5)))))", 1);
    }

    private static void parts() {
        PebbleInShoe x = new PebbleInShoe();
        x.judge(3);
        x.pebble(0, 4010);
        Check.due("asks feels", x.asks(0, 0, 0), 30);
        Check.due("asks wears", x.asks(1, 0, 0), 1);
        Check.due("asks bars", x.asks(2, 0, 0), 30);
        Check.due("a TEXT", Tape.text(x, "feels 11; wears 12; bars 13;"), 1);
        Check.due("THE LAW is the first still", x.asks(0, 0, 0), 30);
        Check.due("force", x.force(1), 0);
        Check.due("asks feels", x.asks(0, 0, 0), 11);
        Check.due("asks wears", x.asks(1, 0, 0), 12);
        Check.due("asks bars", x.asks(2, 0, 0), 13);
        Check.due("force", x.force(0), 1);
        Check.due("force, the same", x.force(0), 0);
        Check.due("force", x.force(2), -2);
        Check.due("force", x.force(-1), -2);
        Check.due("THE LAW", x.count(3), 0);
        Check.due("asks part 3", x.asks(3, 0, 0), -2);
        Check.due("asks part -1", x.asks(-1, 0, 0), -2);
        Check.due("asks, no JUDGE", x.asks(0, 1, 0), -2);
        Check.due("asks, no JUDGE", x.asks(0, -1, 0), -2);
        Check.due("asks, no PEBBLE", x.asks(0, 0, 1), -2);
        Check.due("asks, no PEBBLE", x.asks(0, 0, -1), -2);
        x.shoe(0, 0, 9);
        x.put(0, 0, 77);
        Check.due("asks as they are now", x.asks(0, 0, 0), 67);
    }

    private static void bounds() {
        PebbleInShoe x = new PebbleInShoe();
        x.judge(0);
        x.pebble(0, 5000);
        Tape.law(x, "feels size*2; wears 21; bars 9999+1;");
        Check.due("feels above", x.asks(0, 0, 0), 99);
        Check.due("wears above", x.asks(1, 0, 0), 20);
        Check.due("bars above", x.asks(2, 0, 0), 9999);
        Tape.law(x, "feels -1; wears -1; bars -1;");
        for (int part = 0; part < 3; part++) {
            Check.due("part " + part + " below", x.asks(part, 0, 0), 0);
        }
        Tape.law(x, "feels 99; wears 20; bars 9999;");
        Check.due("feels", x.asks(0, 0, 0), 99);
        Check.due("wears", x.asks(1, 0, 0), 20);
        Check.due("bars", x.asks(2, 0, 0), 9999);
    }

    private static void fullTexts() {
        PebbleInShoe x = new PebbleInShoe();
        x.judge(0);
        x.pebble(0, 5000);
        for (int t = 1; t < 6; t++) {
            Check.due("TEXT " + t, Tape.text(x, "feels " + t + ";wears 1;bars 1;"), t);
        }
        Tape.feed(x, "feels ");
        Check.due("text, FULL ahead of the FAULT", x.text(), -4);
        Check.due("THE TAPE stays", x.count(4), 6);
        Check.due("TEXTS", x.count(2), 6);
        for (int t = 0; t < 6; t++) {
            x.force(t);
            Check.due("by TEXT " + t, x.asks(0, 0, 0), t == 0 ? 50 : t);
        }
        Check.due("force", x.force(6), -2);
    }
}
