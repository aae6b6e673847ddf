import java.util.function.ToIntFunction;

/** What stands ahead of the numbered terms: the number of calls, the face, a new object, what holds for all calls. */
public final class FaceAndTermsSentencesTest {
    public static void main(String[] args) {
        Sentence.holds("What it is", "An object is used for at most 512 calls after it has been made",
            FaceAndTermsSentencesTest::all512CallsAnswer);
        Sentence.holds("The public face", "BAD = -1000000001, NO = -1000000002, FULL = -1000000003, NONE = -1000000005, "
            + "NOTHING = -1000000011, KIND = -1000000012, INDEX = -1000000013, SIZE = -1000000014",
            FaceAndTermsSentencesTest::constants);
        Sentence.holds("Promise 1", "As told; no LEDGES.", FaceAndTermsSentencesTest::newObject);
        Sentence.holds("Promise 1", "no LEDGES", FaceAndTermsSentencesTest::newObjectsShareNothing);
        Sentence.holds("Terms", "All numbers are whole; / cuts towards 0.", FaceAndTermsSentencesTest::cutTowards0);
        Sentence.holds("Terms", "A call that is refused answers one of BAD, NO, FULL, or a FINDING",
            FaceAndTermsSentencesTest::refusedByEach);
        Sentence.holds("Terms", "of several the one that stands first with it", FaceAndTermsSentencesTest::firstOfSeveral);
        Sentence.holds("Terms", "and changes nothing", FaceAndTermsSentencesTest::manyRefusedCallsChangeNothing);
        Sentence.holds("Terms", "(but the tape and the numbers that wait, where told)",
            FaceAndTermsSentencesTest::tapeAndNumbersWhereTold);
        Sentence.holds("Terms", "NONE: there is none.", FaceAndTermsSentencesTest::noneChangesNothing);
        Sentence.holds("Terms", "Sets are told as bits (bit k for number k).", FaceAndTermsSentencesTest::bits);
        Sentence.end("FaceAndTermsSentencesTest");
    }

    private static void all512CallsAnswer() {
        LadderTown x = new LadderTown();
        for (int i = 2; i <= 512; i++) Due.is("call " + (i - 1), x.seed(i), i - 1);
        Due.is("call 512", x.count(9), 512);
        LadderTown days = new LadderTown();
        for (int i = 0; i < 511; i++) days.nights(30);
        Due.is("call 512: the days", days.count(3), 511 * 30);
        LadderTown texts = new LadderTown();
        for (int i = 0; i < 256; i++) {
            Due.is("feed " + i, texts.feed(0x6c65616e, 0x20682b70, 0x20202020), 12);
            Due.is("text " + i, texts.text(), i < 14 ? i : Due.FULL);
        }
    }

    private static void constants() {
        Due.is("BAD", LadderTown.BAD, -1000000001);
        Due.is("NO", LadderTown.NO, -1000000002);
        Due.is("FULL", LadderTown.FULL, -1000000003);
        Due.is("NONE", LadderTown.NONE, -1000000005);
        Due.is("NOTHING", LadderTown.NOTHING, -1000000011);
        Due.is("KIND", LadderTown.KIND, -1000000012);
        Due.is("INDEX", LadderTown.INDEX, -1000000013);
        Due.is("SIZE", LadderTown.SIZE, -1000000014);
    }

    private static void newObject() {
        LadderTown x = new LadderTown();
        for (int what = 0; what < 9; what++) Due.is("count " + what, x.count(what), 0);
        Due.is("z", x.count(9), 1);
        Due.is("no ledge", x.ledgeTold(0, 0), Due.BAD);
        Due.is("no ladder", x.told(0, 0), Due.BAD);
        Due.is("no one of people", x.personTold(0, 0), Due.BAD);
        Due.is("no text", x.textTold(0, 0), Due.BAD);
        for (int key = 0; key < 3; key++) Due.is("no text counts", x.why(key), Due.NONE);
        for (int sheet = 0; sheet < 4; sheet++) Due.is("sheet " + sheet, x.pour(sheet), Due.NOTHING);
        for (int slot = 0; slot < 5; slot++) Due.is("slot " + slot, x.lay(slot, 0, 0), 0);
        Due.is("no image", x.back(), Due.NO);
        Due.is("thieves", x.thieves(20), 20);
    }

    private static void newObjectsShareNothing() {
        LadderTown x = Towns.rich();
        LadderTown y = new LadderTown();
        Due.is("ledges of another one", y.count(0), 0);
        Due.is("texts of another one", y.count(6), 0);
        Due.is("an image of another one", y.back(), Due.NO);
        y.ledge(99, 29);
        y.seed(5);
        y.sheet(3, 0, 24);
        y.keep();
        Twins.alike("beside another one", x, Towns.rich());
    }

    private static void cutTowards0() {
        String[] laws = {"7/2", "(0-7)/2", "7/(0-2)", "(0-7)/(0-2)", "1/2", "(0-1)/2"};
        int[] due = {3, -3, -3, 3, 0, 0};
        for (int i = 0; i < laws.length; i++) {
            LadderTown x = Due.town(0);
            Due.text(x, "toll " + laws[i]);
            Due.is(laws[i], x.way(0, 0, 2), due[i]);
        }
        LadderTown x = new LadderTown();
        x.lay(0, 3, -17);
        Due.is("the rest of -17 by 5", x.rest(0, 5), -2);
        Due.is("the rest of -17 by -5", x.rest(0, -5), -2);
        x.lay(0, 3, 17);
        Due.is("the rest of 17 by -5", x.rest(0, -5), 2);
    }

    private static void refused(String what, ToIntFunction<LadderTown> call, int due) {
        Twins.refused(what, Towns::rich, call, due);
    }

    private static void refusedByEach() {
        refused("BAD", x -> x.ledge(100, 0), Due.BAD);
        refused("NO", x -> x.move(0, 3, 1), Due.NO);
        Twins.refused("FULL", Towns::full, x -> x.tell(0), Due.FULL);
        refused("NOTHING", x -> x.pour(3), Due.NOTHING);
        refused("KIND", x -> x.as(0, 5), Due.KIND);
        refused("INDEX", x -> x.mark(0, 3, 0), Due.INDEX);
        refused("SIZE", x -> x.sheet(0, 0, -1), Due.SIZE);
    }

    private static void firstOfSeveral() {
        Twins.refused("ledge: BAD; FULL", Towns::full, x -> x.ledge(-1, 0), Due.BAD);
        Twins.refused("ladder: BAD; FULL", Towns::full, x -> x.ladder(0, 100, 0, 1), Due.BAD);
        Twins.refused("person: BAD; FULL", Towns::full, x -> x.person(0, -1), Due.BAD);
        refused("as: BAD; KIND", x -> x.as(0, 6), Due.BAD);
        refused("move: BAD; NO", x -> x.move(3, 0, 5), Due.BAD);
        refused("climb: BAD; NO", x -> x.climb(3, 5), Due.BAD);
        refused("way: BAD; NONE", x -> x.way(0, 4, 3), Due.BAD);
        refused("needed: BAD; NONE", x -> x.needed(4, 5), Due.BAD);
        refused("fewest: BAD; NONE", x -> x.fewest(4, 4), Due.BAD);
        Twins.refused("help: BAD; NONE", LadderTown::new, x -> x.help(3), Due.BAD);
        Twins.refused("why: BAD; NONE", LadderTown::new, x -> x.why(3), Due.BAD);
        refused("sheet: BAD; SIZE", x -> x.sheet(4, 0, -1), Due.BAD);
        refused("mark: BAD; NOTHING; ..", x -> x.mark(4, 9, Due.NONE), Due.BAD);
        refused("mark: NOTHING; INDEX; ..", x -> x.mark(3, 9, Due.NONE), Due.NOTHING);
        refused("mark: INDEX; KIND; ..", x -> x.mark(0, 9, Due.NONE), Due.INDEX);
        refused("mark: INDEX; ..; BAD", x -> x.mark(1, 9, 100000), Due.INDEX);
        Twins.refused("nearest: BAD; NOTHING; NONE", LadderTown::new, x -> x.nearest(0, 2), Due.BAD);
        Twins.refused("nearest: NOTHING; NONE", LadderTown::new, x -> x.nearest(0, 0), Due.NOTHING);
        refused("copy: BAD; NOTHING; ..", x -> x.copy(3, 9, 4, 9, 9), Due.BAD);
        refused("copy: NOTHING; ..", x -> x.copy(3, 9, 1, 9, 9), Due.NOTHING);
        refused("copy: KIND; INDEX", x -> x.copy(0, 9, 1, 9, 9), Due.KIND);
        refused("lay: BAD; NOTHING", x -> x.lay(5, 2, 3), Due.BAD);
        refused("ask: BAD; NOTHING; ..", x -> x.ask(3, 6), Due.BAD);
        refused("item: NOTHING; ..", x -> x.item(3, 9), Due.NOTHING);
        refused("item: KIND; INDEX", x -> x.item(2, 9), Due.KIND);
        refused("rest: BAD; ..; NO", x -> x.rest(5, 0), Due.BAD);
        refused("rest: NOTHING; ..; NO", x -> x.rest(3, 0), Due.NOTHING);
        refused("rest: KIND; NO", x -> x.rest(0, 0), Due.KIND);
        Due.is("check: BAD; NO", new LadderTown().check(0), Due.BAD);
    }

    private static void tapeAndNumbersWhereTold() {
        LadderTown x = Towns.rich();
        x.trim(4);
        Due.is("a fault", x.text(), -104);
        Due.is("uses up the tape", x.count(8), 0);
        Due.is("but no numbers", x.count(7), 2);
        LadderTown y = Towns.rich();
        Due.is("a bad check", y.check(31), Due.BAD);
        Due.is("leaves no numbers", y.count(7), 0);
        Due.is("but the tape", y.count(8), 10);
        LadderTown z = Towns.full();
        Due.is("feed is full", z.feed(1, 1, 1), Due.FULL);
        Due.is("trim is bad", z.trim(97), Due.BAD);
        Due.is("the tape stays", z.count(8), 96);
        Due.is("tell is full", z.tell(1), Due.FULL);
        Due.is("the numbers stay", z.count(7), 60);
        Due.is("and are as they were", z.check(30), 0);
    }

    private static void manyRefusedCallsChangeNothing() {
        LadderTown x = Towns.rich();
        int m = Due.MAX, n = Due.MIN;
        int[] answers = {x.ledge(m, n), x.ledgeTold(m, n), x.change(m, n, m), x.deal(n), x.ladder(m, n, m, n), x.told(m, n),
            x.as(n, m), x.turns(m, n), x.cut(n, m), x.needs(m, n), x.person(m, n), x.personTold(n, m), x.set(m, n, m),
            x.may(n, m), x.move(m, n, m), x.climb(n, m), x.thieves(m), x.nights(n), x.way(m, n, m), x.reached(n),
            x.needed(m, n), x.fewest(n, m), x.help(m), x.trim(n), x.textTold(m, n), x.why(n), x.sheet(m, n, m),
            x.mark(n, m, n), x.pour(m), x.nearest(n, m), x.copy(m, n, m, n, m), x.lay(n, m, n), x.ask(m, n), x.item(n, m),
            x.rest(m, n), x.count(m)};
        for (int i = 0; i < answers.length; i++) Due.is("call " + i, answers[i], Due.BAD);
        Twins.alike("all of them", x, Towns.rich());
    }

    private static void noneChangesNothing() {
        LadderTown x = Towns.rich();
        Due.is("way", x.way(0, 4, 0), Due.NONE);
        Due.is("needed", x.needed(4, 0), Due.NONE);
        Due.is("meeting", x.set(3, 0, 4) == 3 ? x.meeting() : 0, Due.NONE);
        Due.is("as it was", x.set(3, 0, 3), 4);
        Due.is("fewest", x.fewest(0, 4), Due.NONE);
        Twins.alike("answers that there is none", x, Towns.rich());
        LadderTown y = new LadderTown();
        y.sheet(0, 0, 2);
        Due.is("nearest", y.nearest(0, 0), Due.NONE);
        Due.is("help", y.help(0), Due.NONE);
        Due.is("meeting of nobody", y.meeting(), Due.NONE);
        Due.is("why", y.why(2), Due.NONE);
        LadderTown other = new LadderTown();
        other.sheet(0, 0, 2);
        Twins.alike("answers that there is none, in an empty town", y, other);
    }

    private static void bits() {
        LadderTown x = Due.town(0, 10, 20, 30, 40, 50, 60, 70, 80, 90);
        for (int i = 0; i < 7; i++) x.ladder(0, 1, 8, 0);
        x.ladder(0, 10, 8, 9);
        for (int i = 0; i < 6; i++) x.person(i == 5 ? 9 : 0, 0);
        Due.is("ladder 7 from its foot", x.ledgeTold(8, 3), 255);
        Due.is("none from another one", x.ledgeTold(9, 3), 0);
        Due.is("ledge 9 is reached by ladder 7", x.told(7, 9), 512);
        Due.is("nothing is reached by ladder 0", x.told(0, 9), 0);
        Due.is("ledges 8 and 9", x.reached(8), 768);
        Due.is("ladder 7 is needed", x.needed(9, 8), 128);
        Due.is("person 5 is above", x.above(), 32);
    }
}
