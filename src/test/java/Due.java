/** What tests share: answers that are due, and ways to bring a town or a tape about in one line. */
final class Due {
    static final int BAD = LadderTown.BAD, NO = LadderTown.NO, FULL = LadderTown.FULL, NONE = LadderTown.NONE;
    static final int NOTHING = LadderTown.NOTHING, KIND = LadderTown.KIND;
    static final int INDEX = LadderTown.INDEX, SIZE = LadderTown.SIZE;
    static final int MAX = Integer.MAX_VALUE, MIN = Integer.MIN_VALUE;

    private static int wrong = 0;
    private static int asked = 0;
    private static String sentence = "";

    private Due() {
    }

    static void is(String what, int got, int want) {
        asked++;
        if (got == want) return;
        wrong++;
        System.out.println(sentence + what + ": answered " + got + ", due is " + want);
    }

    static void holds(String what, boolean so) {
        asked++;
        if (so) return;
        wrong++;
        System.out.println(sentence + what);
    }

    static int asked() {
        return asked;
    }

    /** What is asked from now on is told together with this. */
    static void under(String words) {
        sentence = words.isEmpty() ? "" : words + "\n    ";
    }

    /** Ends the test: with exit code 1 if an answer was not as due. */
    static void end(String test) {
        System.out.println(test + (wrong == 0 ? ": all answers are as due" : ": " + wrong + " answers are not as due"));
        if (wrong != 0) System.exit(1);
    }

    /** A town with ledges at these heights, all at place 0. */
    static LadderTown town(int... heights) {
        LadderTown x = new LadderTown();
        for (int height : heights) x.ledge(height, 0);
        return x;
    }

    /** Puts a text on the tape, each character one byte, and nothing behind it. */
    static void tape(LadderTown x, String text) {
        int had = x.count(8);
        for (int i = 0; i < text.length(); i += 12) {
            x.feed(four(text, i), four(text, i + 4), four(text, i + 8));
        }
        is("trim behind \"" + text + "\"", x.trim(had + text.length()), had + text.length());
    }

    static int text(LadderTown x, String text) {
        tape(x, text);
        return x.text();
    }

    private static int four(String text, int at) {
        int v = 0;
        for (int i = at; i < at + 4; i++) v = v << 8 | (i < text.length() ? text.charAt(i) & 255 : 0);
        return v;
    }
}
