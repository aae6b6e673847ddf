/** The sentences of part 3 of the terms: help, toll, nearest. */
public final class Terms3SentencesTest {
    private static final String PART = "Terms 3";

    public static void main(String[] args) {
        Sentence.holds(PART, "HELP: a LADDER and a LEDGE that it REACHES: with it as its TOP most LEDGES would be REACHED from "
            + "LEDGE 0", Terms3SentencesTest::mostReached);
        Sentence.holds(PART, "and more than now", Terms3SentencesTest::moreThanNow);
        Sentence.holds(PART, "of several the least LADDER, then the least LEDGE", Terms3SentencesTest::leastLadderThenLedge);
        Sentence.holds(PART, "TOLL of a WAY: what toll gives", Terms3SentencesTest::tollByText);
        Sentence.holds(PART, "(without a TEXT: MINUTES)", Terms3SentencesTest::tollWithoutText);
        Sentence.holds(PART, "NEAREST to a SHEET: the LEDGE whose WAYS' MINUTES to LEDGES k", Terms3SentencesTest::nearest);
        Sentence.holds(PART, "(place k of the SHEET, if it is a number", Terms3SentencesTest::nearestLeavesOutNoNumber);
        Sentence.holds(PART, "999 without a WAY)", Terms3SentencesTest::nearestWithoutWay);
        Sentence.holds(PART, "differ least (signs left out), together", Terms3SentencesTest::nearestSignsLeftOut);
        Sentence.holds(PART, "of several the least.", Terms3SentencesTest::nearestOfSeveral);
        Sentence.end("Terms3SentencesTest");
    }

    private static void help(LadderTown x, int ladder, int ledge, int reached) {
        Due.is("the ladder", x.help(0), ladder);
        Due.is("the ledge", x.help(1), ledge);
        Due.is("how many", x.help(2), reached);
    }

    private static void mostReached() {
        // Ladder 2 stands from 3 to 4; ladder 1 would reach 1, 2, 3; ladder 0 only 1.
        LadderTown x = Due.town(0, 10, 20, 30, 40);
        x.ladder(0, 10, 0, 4);
        x.ladder(0, 30, 0, 4);
        x.ladder(0, 10, 3, 4);
        help(x, 1, 3, 3);
        x.cut(1, 29);
        help(x, 0, 1, 2);
        // It stands already, and its way would be lost: 0 and 1 against 0, 2 and 3.
        LadderTown y = Due.town(0, 10, 20, 30);
        y.ladder(0, 20, 0, 1);
        y.ladder(0, 10, 2, 3);
        help(y, 0, 2, 3);
        y.person(0, 20);
        y.thieves(0);
        y.move(0, 0, 2);
        help(y, Due.NONE, Due.NONE, Due.NONE);
        // Who may move it does not matter, nor whether it was moved today.
        y.thieves(100);
        y.nights(1);
        Due.is("thieves leant it back", y.told(0, 3), 1);
        help(y, 0, 2, 3);
        y.set(0, 1, 0);
        help(y, 0, 2, 3);
        y.set(0, 1, 20);
        y.nights(1);
        Due.is("it is moved away from where it helps", y.move(0, 0, 1), 2);
        Due.is("it was moved today", y.told(0, 7), 1);
        help(y, 0, 2, 3);
    }

    private static void moreThanNow() {
        LadderTown x = Due.town(0, 10, 20);
        x.ladder(0, 20, 0, 1);
        help(x, Due.NONE, Due.NONE, Due.NONE);
        x.ladder(0, 10, 1, 0);
        help(x, 1, 2, 3);
        x.cut(1, 9);
        help(x, Due.NONE, Due.NONE, Due.NONE);
        help(Due.town(0, 10), Due.NONE, Due.NONE, Due.NONE);
        help(Due.town(0), Due.NONE, Due.NONE, Due.NONE);
        help(new LadderTown(), Due.NONE, Due.NONE, Due.NONE);
    }

    private static void leastLadderThenLedge() {
        LadderTown x = Due.town(0, 10, 20, 30);
        x.ladder(0, 1, 0, 1);
        for (int i = 0; i < 3; i++) x.ladder(0, 30, 1, 0);
        x.ladder(0, 30, 0, 1);
        x.cut(4, 9);
        help(x, Due.NONE, Due.NONE, Due.NONE);
        x.cut(0, 30);
        // Ladders 1 to 3 would each reach 2 or 3 from ledge 1.
        help(x, 1, 2, 3);
        x.cut(1, 9);
        help(x, 2, 2, 3);
        x.change(2, 0, 5);
        help(x, 2, 3, 3);
        LadderTown y = Due.town(30, 0, 10, 20);
        y.ladder(0, 30, 1, 2);
        help(y, 0, 0, 2);
    }

    private static void tollByText() {
        LadderTown x = Due.town(0, 10, 20);
        x.ladder(0, 10, 0, 1);
        x.ladder(0, 10, 1, 2);
        Due.text(x, "toll m*100+n");
        Due.is("both", x.way(0, 2, 2), 602);
        Due.is("down", x.way(2, 1, 2), 301);
        Due.is("to itself", x.way(1, 1, 2), 0);
        Due.text(x, "toll 0-m*9999*9999");
        Due.is("it is not held, and wraps", x.way(0, 2, 2), 0 - 6 * 9999 * 9999);
        Due.text(x, "toll 5");
        Due.is("to itself, too, it is what toll gives", x.way(1, 1, 2), 5);
        Due.is("minutes are not otherwise", x.way(0, 2, 0), 6);
        Due.is("nor ladders", x.way(0, 2, 1), 2);
    }

    private static void tollWithoutText() {
        LadderTown x = Due.town(0, 10, 20);
        x.ladder(1, 10, 0, 1);
        Due.text(x, "lean h");
        Due.text(x, "move 1");
        Due.is("minutes", x.way(0, 1, 2), 6);
        Due.is("of nothing", x.way(2, 2, 2), 0);
        Due.is("no way", x.way(0, 2, 2), Due.NONE);
    }

    /** Minutes: 0 3 7 from ledge 0, 3 0 4 from ledge 1, 7 4 0 from ledge 2; ledge 3 has no ladders. */
    private static LadderTown measured() {
        LadderTown x = Due.town(0, 10, 25, 99);
        x.ladder(0, 10, 0, 1);
        x.ladder(0, 15, 1, 2);
        x.sheet(0, 1, 4);
        return x;
    }

    private static void nearest(LadderTown x, int sheet, int ledge, int together) {
        Due.is("the ledge", x.nearest(sheet, 0), ledge);
        Due.is("together", x.nearest(sheet, 1), together);
    }

    private static void marks(LadderTown x, int... values) {
        for (int i = 0; i < values.length; i++) x.mark(0, i, values[i]);
    }

    private static void nearest() {
        LadderTown x = measured();
        marks(x, 3, 0, 4, 999);
        nearest(x, 0, 1, 0);
        marks(x, 7, 4, 0, 999);
        nearest(x, 0, 2, 0);
        marks(x, 999, 999, 999, 0);
        nearest(x, 0, 3, 0);
        marks(x, 0, 4, 7, 998);
        nearest(x, 0, 0, 2);
    }

    private static void nearestLeavesOutNoNumber() {
        LadderTown x = measured();
        marks(x, Due.NONE, Due.NONE, 4, Due.NONE);
        nearest(x, 0, 1, 0);
        marks(x, Due.NONE, Due.NONE, Due.NONE, Due.NONE);
        nearest(x, 0, 0, 0);
        x.sheet(1, 0, 0);
        nearest(x, 1, 0, 0);
        x.sheet(1, 0, 1);
        x.mark(1, 0, 6);
        nearest(x, 1, 2, 1);
    }

    private static void nearestWithoutWay() {
        LadderTown x = measured();
        marks(x, Due.NONE, Due.NONE, Due.NONE, 999);
        nearest(x, 0, 0, 0);
        marks(x, Due.NONE, Due.NONE, Due.NONE, 998);
        nearest(x, 0, 0, 1);
        marks(x, Due.NONE, Due.NONE, Due.NONE, 499);
        nearest(x, 0, 3, 499);
        x.sheet(0, 1, 24);
        for (int i = 0; i < 23; i++) x.mark(0, i, Due.NONE);
        x.mark(0, 23, 1000);
        nearest(x, 0, 0, 1);
        x.mark(0, 4, 0);
        nearest(x, 0, 0, 1000);
        x.ledge(50, 0);
        nearest(x, 0, 4, 1);
    }

    private static void nearestSignsLeftOut() {
        LadderTown x = measured();
        marks(x, -5, 5, Due.NONE, Due.NONE);
        // 5 + 2, 8 + 5, 12 + 1, 1004 + 994.
        nearest(x, 0, 0, 7);
        marks(x, -99999, -99999, -99999, -99999);
        nearest(x, 0, 1, 4 * 99999 + 7 + 999);
        marks(x, 99999, 99999, 99999, 99999);
        nearest(x, 0, 3, 4 * 99999 - 3 * 999);
        x.sheet(1, 0, 3);
        for (int i = 0; i < 3; i++) x.mark(1, i, 32768);
        nearest(x, 1, 1, 3 * 32768 + 7);
    }

    private static void nearestOfSeveral() {
        LadderTown x = measured();
        marks(x, Due.NONE, Due.NONE, 2, Due.NONE);
        // 5, 2, 2, 997.
        nearest(x, 0, 1, 2);
        marks(x, Due.NONE, Due.NONE, Due.NONE, Due.NONE);
        nearest(x, 0, 0, 0);
        marks(x, Due.NONE, 2, Due.NONE, Due.NONE);
        // 1, 2, 2, 997.
        nearest(x, 0, 0, 1);
    }
}
