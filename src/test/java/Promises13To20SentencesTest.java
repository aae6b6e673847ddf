import java.util.function.ToIntFunction;

/** The sentences of promises 13 to 20: edges and refused calls of people, thieves and nights. */
public final class Promises13To20SentencesTest {
    private static final int[] NO_LEDGE = {-1, 5, 10, Due.MAX, Due.MIN};
    private static final int[] NO_LADDER = {-1, 5, 8, Due.MAX, Due.MIN};
    private static final int[] NO_PERSON = {-1, 4, 6, Due.MAX, Due.MIN};

    public static void main(String[] args) {
        people();
        moves();
        Sentence.end("Promises13To20SentencesTest");
    }

    private static void people() {
        Sentence.holds("Promise 13", "One more of PEOPLE: its number.", Promises13To20SentencesTest::oneMore);
        Sentence.holds("Promise 13", "BAD; FULL.", Promises13To20SentencesTest::personRefused);
        Sentence.holds("Promise 14", "what 0 its LEDGE, 1 STRENGTH.", Promises13To20SentencesTest::personTold);
        Sentence.holds("Promise 14", "BAD.", Promises13To20SentencesTest::personToldRefused);
        Sentence.holds("Promise 15", "One is on a LEDGE (what 0), STRENGTH becomes v (1): what it was.",
            Promises13To20SentencesTest::set);
        Sentence.holds("Promise 15", "BAD.", Promises13To20SentencesTest::setRefused);
        Sentence.holds("Promise 16", "Whether one MAY MOVE a LADDER: 1, 0.", Promises13To20SentencesTest::may);
        Sentence.holds("Promise 16", "BAD.", Promises13To20SentencesTest::mayRefused);
    }

    private static void moves() {
        Sentence.holds("Promise 17", "One MOVES a LADDER to a TOP: where it leant.", Promises13To20SentencesTest::move);
        Sentence.holds("Promise 17", "BAD; NO: it MAY not, it is its TOP, or it does not REACH it.",
            Promises13To20SentencesTest::moveRefused);
        Sentence.holds("Promise 18", "One CLIMBS a LADDER: MINUTES.", Promises13To20SentencesTest::climb);
        Sentence.holds("Promise 18", "BAD; NO: it does not STAND, or that one is on neither end.",
            Promises13To20SentencesTest::climbRefused);
        Sentence.holds("Promise 19", "THIEVES become v: what they were.", Promises13To20SentencesTest::thieves);
        Sentence.holds("Promise 19", "BAD.", Promises13To20SentencesTest::thievesRefused);
        Sentence.holds("Promise 20", "n (1 .. 30) NIGHTS", Promises13To20SentencesTest::oneToThirtyNights);
        Sentence.holds("Promise 20", "how often a LADDER came to another TOP.", Promises13To20SentencesTest::howOften);
        Sentence.holds("Promise 20", "BAD.", Promises13To20SentencesTest::nightsRefused);
    }

    private static void bad(String what, ToIntFunction<LadderTown> call) {
        Twins.refused(what, Towns::rich, call, Due.BAD);
    }

    private static void no(String what, ToIntFunction<LadderTown> call) {
        Twins.refused(what, Towns::rich, call, Due.NO);
    }

    private static void oneMore() {
        LadderTown x = Towns.rich();
        Due.is("its number", x.person(4, 99), 4);
        Due.is("its ledge", x.personTold(4, 0), 4);
        Due.is("its strength", x.personTold(4, 1), 99);
        Due.is("the next one, on the same ledge", x.person(4, 0), 5);
        Due.is("both are there", x.ledgeTold(4, 2), 2);
    }

    private static void personRefused() {
        for (int l : NO_LEDGE) bad("ledge " + l, x -> x.person(l, 0));
        int[] strengths = {-1, 100, Due.MAX, Due.MIN};
        for (int s : strengths) bad("strength " + s, x -> x.person(0, s));
        Twins.refused("no ledges", LadderTown::new, x -> x.person(0, 0), Due.BAD);
        Twins.refused("full", Towns::full, x -> x.person(0, 0), Due.FULL);
        Twins.refused("bad ledge ahead of full", Towns::full, x -> x.person(10, 0), Due.BAD);
        Twins.refused("bad strength ahead of full", Towns::full, x -> x.person(0, 100), Due.BAD);
    }

    private static void personTold() {
        LadderTown x = Towns.rich();
        int[][] due = {{0, 50}, {1, 7}, {1, 60}, {3, 9}};
        for (int i = 0; i < 4; i++) {
            Due.is("ledge of " + i, x.personTold(i, 0), due[i][0]);
            Due.is("strength of " + i, x.personTold(i, 1), due[i][1]);
        }
    }

    private static void personToldRefused() {
        for (int p : NO_PERSON) bad("person " + p, x -> x.personTold(p, 0));
        int[] whats = {-1, 2, Due.MAX, Due.MIN};
        for (int w : whats) bad("what " + w, x -> x.personTold(0, w));
    }

    private static void set() {
        LadderTown x = Towns.rich();
        Due.is("ledge", x.set(3, 0, 4), 3);
        Due.is("strength", x.set(3, 1, 99), 9);
        Due.is("its ledge", x.personTold(3, 0), 4);
        Due.is("its strength", x.personTold(3, 1), 99);
        Due.is("ledge back", x.set(3, 0, 3), 4);
        Due.is("strength back", x.set(3, 1, 9), 99);
        Due.is("to where it is", x.set(3, 0, 3), 3);
        Twins.alike("set and back", x, Towns.rich());
    }

    private static void setRefused() {
        for (int p : NO_PERSON) {
            bad("person " + p + ", ledge", x -> x.set(p, 0, 1));
            bad("person " + p + ", strength", x -> x.set(p, 1, 1));
        }
        for (int l : NO_LEDGE) bad("ledge " + l, x -> x.set(0, 0, l));
        int[] whats = {-1, 2, Due.MAX, Due.MIN};
        for (int w : whats) bad("what " + w, x -> x.set(0, w, 1));
        int[] strengths = {-1, 100, Due.MAX, Due.MIN};
        for (int s : strengths) bad("strength " + s, x -> x.set(0, 1, s));
    }

    private static void may() {
        // The text says s > l. Person 0 is on ledge 0, 1 and 2 on ledge 1, 3 on ledge 3.
        int[][] due = {{1, 0, 0, 0, 0}, {0, 1, 0, 0, 1}, {0, 1, 0, 0, 1}, {0, 0, 0, 0, 0}};
        for (int p = 0; p < 4; p++) {
            for (int l = 0; l < 5; l++) {
                int person = p, ladder = l;
                Twins.refused(p + ", ladder " + l, Towns::rich, x -> x.may(person, ladder), due[p][l]);
            }
        }
    }

    private static void mayRefused() {
        for (int p : NO_PERSON) bad("person " + p, x -> x.may(p, 0));
        for (int l : NO_LADDER) bad("ladder " + l, x -> x.may(0, l));
    }

    private static void move() {
        LadderTown x = Towns.rich();
        Due.is("where it leant", x.move(1, 4, 2), 3);
        Due.is("where it leans", x.told(4, 3), 2);
        Due.is("it was moved", x.told(4, 7), 1);
        Due.is("it stands", x.told(4, 6), 1);
        Due.is("that one is where it was", x.personTold(1, 0), 1);
        Due.is("two were moved today", x.count(5), 2);
    }

    private static void moveRefused() {
        for (int p : NO_PERSON) bad("person " + p, x -> x.move(p, 4, 2));
        for (int l : NO_LADDER) bad("ladder " + l, x -> x.move(1, l, 2));
        for (int l : NO_LEDGE) bad("top " + l, x -> x.move(1, 4, l));
        bad("bad top ahead of may not", x -> x.move(0, 3, 5));
        no("moved today", x -> x.move(0, 3, 1));
        no("not on its foot", x -> x.move(0, 4, 2));
        Twins.refused("too weak by the text", () -> withStrength(30), x -> x.move(0, 0, 2), Due.NO);
        Due.is("just strong enough", withStrength(31).move(0, 0, 2), 1);
        no("its top", x -> x.move(1, 1, 2));
        no("its foot", x -> x.move(1, 4, 1));
        no("too far", x -> x.move(1, 4, 4));
        no("its top, which it does not reach", x -> x.move(1, 4, 3));
        no("a lower one", x -> x.move(1, 4, 0));
    }

    /** Ladder 0 is 30 long and could lean at ledge 2; the text says s > l. */
    private static LadderTown withStrength(int strength) {
        LadderTown x = Towns.rich();
        x.cut(0, 30);
        x.set(0, 1, strength);
        return x;
    }

    private static void climb() {
        LadderTown x = Towns.rich();
        Due.is("up", x.climb(0, 0), 3);
        Due.is("it is above", x.personTold(0, 0), 1);
        Due.is("on by another one", x.climb(0, 1), 8);
        Due.is("it is above", x.personTold(0, 0), 2);
        Due.is("down by another one, that was moved today", x.climb(0, 3), 11);
        Due.is("it is below", x.personTold(0, 0), 0);
        Twins.alike("round and back", x, Towns.rich());
    }

    private static void climbRefused() {
        for (int p : NO_PERSON) bad("person " + p, x -> x.climb(p, 0));
        for (int l : NO_LADDER) bad("ladder " + l, x -> x.climb(0, l));
        no("it does not stand, from its foot", x -> x.climb(1, 4));
        no("it does not stand, from its top", x -> x.climb(3, 4));
        no("on neither end", x -> x.climb(3, 0));
        no("on neither end, below", x -> x.climb(0, 1));
        no("neither", x -> x.climb(0, 4));
    }

    private static void thieves() {
        LadderTown x = Towns.rich();
        Due.is("none", x.thieves(0), 41);
        Due.is("most", x.thieves(100), 0);
        Due.is("back", x.thieves(41), 100);
        Twins.alike("and back", x, Towns.rich());
    }

    private static void thievesRefused() {
        int[] values = {-1, 101, Due.MAX, Due.MIN};
        for (int v : values) bad("thieves " + v, x -> x.thieves(v));
    }

    private static void oneToThirtyNights() {
        for (int n = 1; n <= 30; n++) {
            LadderTown x = Due.town(0, 10, 20);
            x.ladder(0, 20, 0, 1);
            x.thieves(100);
            Due.is("n " + n, x.nights(n), n);
            Due.is("days", x.count(3), n);
            Due.is("its top", x.told(0, 3), n % 2 == 0 ? 1 : 2);
        }
    }

    private static void howOften() {
        LadderTown x = Due.town(0, 10, 20, 30);
        x.ladder(0, 20, 0, 1);
        x.ladder(0, 10, 1, 2);
        x.ladder(0, 1, 2, 3);
        x.thieves(100);
        Due.is("those that stay do not count", x.nights(3), 3);
        Due.is("there and back counts twice", x.nights(2), 2);
        Due.is("its top", x.told(0, 3), 2);
        x.thieves(0);
        Due.is("never", x.nights(30), 0);
    }

    private static void nightsRefused() {
        int[] values = {0, -1, 31, Due.MAX, Due.MIN};
        for (int n : values) bad("nights " + n, x -> x.nights(n));
    }
}
