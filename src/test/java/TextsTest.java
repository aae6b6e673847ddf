/** Promises 28 to 32: the tape and texts. */
public final class TextsTest {
    public static void main(String[] args) {
        feed();
        trim();
        textsAndTape();
        faults();
        faultsOfDepth();
        whole();
        values();
        textTold();
        why();
        Due.end("TextsTest");
    }

    private static void feed() {
        LadderTown x = new LadderTown();
        for (int i = 1; i <= 8; i++) Due.is("28 feed", x.feed(0, -1, Due.MIN), 12 * i);
        Due.is("28 full", x.feed(0, 0, 0), Due.FULL);
        Due.is("28 stays", x.count(8), 96);
        x.trim(85);
        Due.is("28 full by one byte", x.feed(0, 0, 0), Due.FULL);
        x.trim(84);
        Due.is("28 just not", x.feed(0, 0, 0), 96);
        LadderTown y = new LadderTown();
        y.feed(0x6c65616e, 0x20313233, 0x34202020);
        Due.is("28 the highest byte first", y.text(), 0);
        y.ledge(0, 0);
        y.ledge(1, 0);
        Due.is("28 what it says: lean 1234", y.needs(0, 1), 999);
    }

    private static void trim() {
        LadderTown x = new LadderTown();
        Due.is("29 nothing", x.trim(0), 0);
        Due.is("29 bad", x.trim(1), Due.BAD);
        x.feed(0, 0, 0);
        Due.is("29 bad", x.trim(13), Due.BAD);
        Due.is("29 bad", x.trim(-1), Due.BAD);
        Due.is("29 all", x.trim(12), 12);
        Due.is("29 some", x.trim(7), 7);
        Due.is("29 tape", x.count(8), 7);
        Due.is("29 no more", x.trim(8), Due.BAD);
        Due.is("29 goes on behind them", x.feed(0, 0, 0), 19);
    }

    private static void textsAndTape() {
        LadderTown x = new LadderTown();
        for (int i = 0; i < 14; i++) Due.is("30 text", Due.text(x, "lean " + i), i);
        Due.is("30 full", Due.text(x, "lean h"), Due.FULL);
        Due.is("30 full uses up the tape", x.count(8), 0);
        Due.is("30 fault ahead of full", Due.text(x, "lean h h"), -107);
        Due.is("30 a fault uses up the tape", x.count(8), 0);
        Due.is("30 count", x.count(6), 14);
        LadderTown y = new LadderTown();
        Due.is("30 a text uses up the tape", Due.text(y, "lean h") + y.count(8), 0);
        Due.tape(y, "lean ");
        Due.tape(y, "h+p");
        Due.is("30 from two parts", y.text(), 1);
    }

    private static void fault(String text, int place) {
        LadderTown x = new LadderTown();
        Due.is("30 \"" + text + "\"", Due.text(x, text), -100 - place);
        Due.is("30 no text came", x.count(6), 0);
    }

    private static void faults() {
        fault("", 0);
        fault("   ", 3);
        fault(" ".repeat(96), 96);
        fault("lean" + " ".repeat(92), 96);
        fault(" ".repeat(92) + "lean", 96);
        fault(" ".repeat(95) + "h", 95);
        fault("lean " + "h+".repeat(45) + "(", 96);
        fault("lean" + "9".repeat(92), 4);
        fault("lean", 4);
        fault("lean  ", 6);
        fault("lea", 0);
        fault("  leanh", 2);
        fault("leann h", 0);
        fault("Lean h", 0);
        fault("5 h", 0);
        fault("(lean h)", 0);
        fault("lean5", 4);
        fault("leanz5", 0);
        fault("leana", 0);
        fault("lean h0", 6);
        fault("lean h9", 6);
        fault("lean`h", 4);
        fault("lean{h", 4);
        fault("lean h/h:", 8);
        fault("lean 5h", 6);
        fault("lean h5", 6);
        fault("lean h 5", 7);
        fault("lean hp", 5);
        fault("lean s", 5);
        fault("lean l", 5);
        fault("lean d", 5);
        fault("lean m", 5);
        fault("lean n", 5);
        fault("move h", 5);
        fault("move p", 5);
        fault("move m", 5);
        fault("toll s", 5);
        fault("toll l", 5);
        fault("toll h", 5);
        fault("lean lean", 5);
        fault("lean H", 5);
        fault("lean 12345", 5);
        fault("lean h+00000", 7);
        fault("lean +h", 5);
        fault("lean -1", 5);
        fault("lean h+", 7);
        fault("lean h+ ", 8);
        fault("lean h+*p", 7);
        fault("lean h<p<1", 8);
        fault("lean h=p>1", 8);
        fault("lean h<p+1*2=1", 12);
        fault("lean 1<2&1=1=1", 12);
        fault("lean (1<2<3)", 9);
        fault("lean h<=p", 7);
        fault("lean h&&p", 7);
        fault("lean h!p", 6);
        fault("lean h!", 6);
        fault("lean h(p)", 6);
        fault("lean (h", 7);
        fault("lean (h)) ", 8);
        fault("lean )", 5);
        fault("lean ()", 6);
        fault("lean !", 6);
        fault("lean !)", 6);
        fault("lean h.p", 6);
        fault("lean h\t", 6);
        fault("lean\th", 4);
        fault("lean h\u0000", 6);
        fault("lean \u00e9", 5);
        fault("lean h%p", 6);
    }

    private static void faultsOfDepth() {
        LadderTown x = new LadderTown();
        Due.is("30 eight brackets", Due.text(x, "lean ((((((((h))))))))"), 0);
        Due.is("30 eight !", Due.text(x, "lean !!!!!!!!h"), 1);
        Due.is("30 eight of each", Due.text(x, "lean !(!(!(!(!(!(!(!(h))))))))"), 2);
        Due.is("30 brackets one behind another", Due.text(x, "lean (h)+(h)+(h)+(h)+(h)+(h)+(h)+(h)+(h)+(h)"), 3);
        Due.is("30 ! one behind another", Due.text(x, "lean !h+!h+!h+!h+!h+!h+!h+!h+!h+!h"), 4);
        Due.is("30 closed and open again", Due.text(x, "lean ((((((((h)+(h))))))))"), 5);
        Due.is("30 ! ended by its piece", Due.text(x, "lean !!!!!!!(!h+!p)"), 6);
        fault("lean (((((((((h)))))))))", 13);
        fault("lean !!!!!!!!!h", 13);
        fault("lean ((((((((h+(h)))))))))", 15);
        fault("lean !!!!!!!!(h+!p)", 16);
        fault("lean !!!!!!!(!h+!(!p))", 18);
        fault("lean (((((((( (", 14);
        fault("lean ((((((((!", 14);
    }

    private static void whole() {
        LadderTown x = new LadderTown();
        Due.is("30 blanks", Due.text(x, "  lean   h  +  p  "), 0);
        Due.is("30 no blanks", Due.text(x, "lean(h+p)"), 1);
        Due.is("30 no blanks", Due.text(x, "lean!h"), 2);
        Due.is("30 digits", Due.text(x, "toll 0009*m"), 3);
        StringBuilder longest = new StringBuilder("lean h");
        while (longest.length() < 96) longest.append("+p");
        Due.is("30 96 bytes", Due.text(x, longest.toString()), 4);
        Due.is("30 operands of 96 bytes", x.textTold(4, 1), 46);
    }

    private static void gives(String law, int due) {
        LadderTown x = new LadderTown();
        x.ledge(0, 0);
        Due.is("30 \"" + law + "\"", Due.text(x, "toll " + law), 0);
        Due.is("21 toll " + law, x.way(0, 0, 2), due);
    }

    private static void values() {
        gives("7", 7);
        gives("1+2*3", 7);
        gives("(1+2)*3", 9);
        gives("9-4-3", 2);
        gives("100/7/2", 7);
        gives("7/2*2", 6);
        gives("7*3/2", 10);
        gives("9-3+1", 7);
        gives("9+3-1-2", 9);
        gives("8-6/2-1", 4);
        gives("8-2*3", 2);
        gives("0|1+1", 1);
        gives("3&2-2", 0);
        gives("1+0&0+1", 1);
        gives("2*3>5&1", 1);
        gives("3=1+2", 1);
        gives("4>3-2", 1);
        gives("(0-7)/2", -3);
        gives("5/0", 0);
        gives("0/0", 0);
        gives("1<2", 1);
        gives("2<2", 0);
        gives("2=2", 1);
        gives("2=3", 0);
        gives("3>2", 1);
        gives("2>2", 0);
        gives("(0-1)<0", 1);
        gives("1+1=2", 1);
        gives("5&3", 1);
        gives("5&0", 0);
        gives("0|7", 1);
        gives("0|0", 0);
        gives("1|0&0", 1);
        gives("0&0|1", 1);
        gives("0&(0|1)", 0);
        gives("2&1=1", 1);
        gives("!5", 0);
        gives("!0", 1);
        gives("!!5", 1);
        gives("!0+5", 6);
        gives("!(0+5)", 0);
        gives("3*!0*4", 12);
        gives("(1<2)<3", 1);
        gives("2<1|2*3-6&1", 0);
        gives("2<1|2*3-5&1", 1);
        gives("9999*9999*9999", 9999 * 9999 * 9999);
        gives("(0-2048*1024*1024)/(0-1)", Due.MIN);
        gives("m", 0);
        gives("n+1", 1);
    }

    private static void textTold() {
        LadderTown x = new LadderTown();
        Due.is("31 none", x.textTold(0, 0), Due.BAD);
        Due.text(x, "toll m");
        Due.text(x, "lean h*12+(p-3)");
        Due.text(x, "move !s|l&d");
        int[] keys = {2, 0, 1};
        int[] operands = {1, 4, 3};
        for (int i = 0; i < 3; i++) {
            Due.is("31 key", x.textTold(i, 0), keys[i]);
            Due.is("31 operands", x.textTold(i, 1), operands[i]);
            Due.is("31 what", x.textTold(i, 2), Due.BAD);
            Due.is("31 what", x.textTold(i, -1), Due.BAD);
        }
        Due.is("31 text", x.textTold(3, 0), Due.BAD);
        Due.is("31 text", x.textTold(-1, 0), Due.BAD);
    }

    private static void why() {
        LadderTown x = Due.town(0, 10);
        Due.is("32 none", x.why(1), Due.NONE);
        Due.text(x, "lean 1");
        Due.text(x, "move 1");
        Due.text(x, "lean 2");
        Due.is("32 the last", x.why(0), 2);
        Due.is("32 the only one", x.why(1), 1);
        Due.is("32 none", x.why(2), Due.NONE);
        Due.is("32 it counts", x.needs(0, 1), 2);
        Due.text(x, "lean h h");
        Due.is("32 a fault is none", x.why(0), 2);
        Due.is("32 bad", x.why(3), Due.BAD);
        Due.is("32 bad", x.why(-1), Due.BAD);
    }
}
