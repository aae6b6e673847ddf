import java.util.function.ToIntFunction;

/** The sentences of promises 2 to 12: edges and refused calls of ledges and ladders. */
public final class Promises2To12SentencesTest {
    private static final int[] NO_LEDGE = {-1, 5, 10, Due.MAX, Due.MIN};
    private static final int[] NO_LADDER = {-1, 5, 8, Due.MAX, Due.MIN};
    private static final int[] NO_KIND = {-1, 6, Due.MAX, Due.MIN};

    public static void main(String[] args) {
        ledges();
        ladders();
        Sentence.end("Promises2To12SentencesTest");
    }

    private static void ledges() {
        Sentence.holds("Promise 2", "One more LEDGE: its number.", Promises2To12SentencesTest::oneMoreLedge);
        Sentence.holds("Promise 2", "BAD; FULL.", Promises2To12SentencesTest::ledgeRefused);
        Sentence.holds("Promise 3", "what 0 HEIGHT, 1 PLACE, 2 how many of PEOPLE are on it, 3 LADDERS with their FOOT on it, "
            + "as a set.", Promises2To12SentencesTest::ledgeTold);
        Sentence.holds("Promise 3", "BAD.", Promises2To12SentencesTest::ledgeToldRefused);
        Sentence.holds("Promise 4", "HEIGHT (what 0), PLACE (1) of a LEDGE becomes v: what it was.",
            Promises2To12SentencesTest::change);
        Sentence.holds("Promise 4", "BAD.", Promises2To12SentencesTest::changeRefused);
        Sentence.holds("Promise 5", "LEDGES are drawn, n (1 .. 10) of them", Promises2To12SentencesTest::dealOneToTen);
        Sentence.holds("Promise 5", "as many as there is room for (no draws for others): how many came.",
            Promises2To12SentencesTest::dealNoDrawsForOthers);
        Sentence.holds("Promise 5", "BAD.", Promises2To12SentencesTest::dealRefused);
        Sentence.holds("Promise 6", "z becomes v: what it was.", Promises2To12SentencesTest::seed);
    }

    private static void ladders() {
        Sentence.holds("Promise 7", "One more LADDER (whether it REACHES its TOP or not): its number.",
            Promises2To12SentencesTest::oneMoreLadder);
        Sentence.holds("Promise 7", "BAD: also FOOT and TOP are one; FULL.", Promises2To12SentencesTest::ladderRefused);
        Sentence.holds("Promise 8", "what 0 KIND, 1 LENGTH, 2 FOOT, 3 TOP, 4 REACH", Promises2To12SentencesTest::toldPlainly);
        Sentence.holds("Promise 8", "5 MINUTES (of one that does not STAND, too)", Promises2To12SentencesTest::minutesTold);
        Sentence.holds("Promise 8", "6 whether it STANDS", Promises2To12SentencesTest::standsTold);
        Sentence.holds("Promise 8", "7 whether it was MOVED (1, 0), 8 WORTH, 9 all LEDGES that it REACHES.",
            Promises2To12SentencesTest::told);
        Sentence.holds("Promise 8", "BAD.", Promises2To12SentencesTest::toldRefused);
        Sentence.holds("Promise 9", "A LADDER as one of a KIND: LENGTH.", Promises2To12SentencesTest::as);
        Sentence.holds("Promise 9", "BAD: ladder, kind; KIND: it is not of that KIND, nor of one under it.",
            Promises2To12SentencesTest::asRefused);
        Sentence.holds("Promise 10", "A LADDER is of another KIND from now on: what it was.",
            Promises2To12SentencesTest::turns);
        Sentence.holds("Promise 10", "BAD.", Promises2To12SentencesTest::turnsRefused);
        Sentence.holds("Promise 11", "LENGTH of a LADDER becomes v: what it was.", Promises2To12SentencesTest::cut);
        Sentence.holds("Promise 11", "BAD.", Promises2To12SentencesTest::cutRefused);
        Sentence.holds("Promise 12", "NEEDS of two LEDGES (in any order).", Promises2To12SentencesTest::needsInAnyOrder);
        Sentence.holds("Promise 12", "BAD: also one and itself.", Promises2To12SentencesTest::needsRefused);
    }

    private static void bad(String what, ToIntFunction<LadderTown> call) {
        Twins.refused(what, Towns::rich, call, Due.BAD);
    }

    private static void oneMoreLedge() {
        LadderTown x = Towns.rich();
        Due.is("its number", x.ledge(99, 29), 5);
        Due.is("its height", x.ledgeTold(5, 0), 99);
        Due.is("its place", x.ledgeTold(5, 1), 29);
        Due.is("nobody on it", x.ledgeTold(5, 2), 0);
        Due.is("no ladders from it", x.ledgeTold(5, 3), 0);
        Due.is("no draws", x.count(9), -12345);
    }

    private static void ledgeRefused() {
        int[] heights = {-1, 100, Due.MAX, Due.MIN};
        int[] places = {-1, 30, Due.MAX, Due.MIN};
        for (int h : heights) bad("height " + h, x -> x.ledge(h, 0));
        for (int p : places) bad("place " + p, x -> x.ledge(0, p));
        Twins.refused("full", Towns::full, x -> x.ledge(0, 0), Due.FULL);
        Twins.refused("bad height ahead of full", Towns::full, x -> x.ledge(100, 0), Due.BAD);
        Twins.refused("bad place ahead of full", Towns::full, x -> x.ledge(0, 30), Due.BAD);
    }

    private static void ledgeTold() {
        LadderTown x = Towns.full();
        for (int i = 0; i < 10; i++) {
            Due.is("height of " + i, x.ledgeTold(i, 0), 10 * i);
            Due.is("place of " + i, x.ledgeTold(i, 1), i);
            Due.is("people on " + i, x.ledgeTold(i, 2), i < 6 ? 1 : 0);
            Due.is("ladders from " + i, x.ledgeTold(i, 3), i < 8 ? 1 << i : 0);
        }
        for (int i = 0; i < 6; i++) x.set(i, 0, 9);
        Due.is("all people on 9", x.ledgeTold(9, 2), 6);
        Due.is("nobody on 0", x.ledgeTold(0, 2), 0);
        LadderTown y = Due.town(0, 10);
        for (int i = 0; i < 8; i++) y.ladder(0, 5, i % 2, 1 - i % 2);
        Due.is("even ladders", y.ledgeTold(0, 3), 0x55);
        Due.is("odd ladders, from the higher one", y.ledgeTold(1, 3), 0xaa);
    }

    private static void ledgeToldRefused() {
        for (int l : NO_LEDGE) bad("ledge " + l, x -> x.ledgeTold(l, 0));
        int[] whats = {-1, 4, Due.MAX, Due.MIN};
        for (int w : whats) bad("what " + w, x -> x.ledgeTold(0, w));
    }

    private static void change() {
        LadderTown x = Towns.rich();
        Due.is("height", x.change(4, 0, 99), 40);
        Due.is("height back", x.change(4, 0, 40), 99);
        Due.is("place", x.change(4, 1, 0), 8);
        Due.is("place back", x.change(4, 1, 8), 0);
        Due.is("to what it is", x.change(4, 1, 8), 8);
        Twins.alike("changed and back", x, Towns.rich());
    }

    private static void changeRefused() {
        for (int l : NO_LEDGE) bad("ledge " + l, x -> x.change(l, 0, 1));
        int[] whats = {-1, 2, Due.MAX, Due.MIN};
        for (int w : whats) bad("what " + w, x -> x.change(0, w, 1));
        int[] heights = {-1, 100, Due.MAX, Due.MIN};
        for (int h : heights) bad("height " + h, x -> x.change(0, 0, h));
        int[] places = {-1, 30, 99, Due.MAX, Due.MIN};
        for (int p : places) bad("place " + p, x -> x.change(0, 1, p));
    }

    private static void dealOneToTen() {
        for (int n = 1; n <= 10; n++) {
            LadderTown x = new LadderTown();
            Due.is("n " + n, x.deal(n), n);
            Due.is("ledges of " + n, x.count(0), n);
        }
    }

    private static int drawn(int z, int draws) {
        int v = z;
        for (int i = 0; i < draws; i++) v = v * 1103515245 + 12345;
        return v;
    }

    private static void dealNoDrawsForOthers() {
        for (int had = 0; had <= 10; had++) {
            LadderTown x = new LadderTown();
            for (int i = 0; i < had; i++) x.ledge(0, 0);
            Due.is("room for " + (10 - had), x.deal(10), 10 - had);
            Due.is("two draws for each", x.count(9), drawn(1, 2 * (10 - had)));
            Due.is("ledges", x.count(0), 10);
            Due.is("no room", x.deal(1), 0);
            Due.is("no draws", x.count(9), drawn(1, 2 * (10 - had)));
        }
        Twins.refused("no room: none came", Towns::full, x -> x.deal(10), 0);
    }

    private static void dealRefused() {
        int[] numbers = {0, -1, 11, Due.MAX, Due.MIN};
        for (int n : numbers) {
            bad("n " + n, x -> x.deal(n));
            Twins.refused("bad though there is no room: " + n, Towns::full, x -> x.deal(n), Due.BAD);
        }
    }

    private static void seed() {
        int[] values = {0, -1, Due.MAX, Due.MIN, Due.BAD, Due.NONE};
        LadderTown x = Towns.rich();
        int was = -12345;
        for (int v : values) {
            Due.is("what it was", x.seed(v), was);
            Due.is("z", x.count(9), v);
            was = v;
        }
        x.seed(-12345);
        Twins.alike("z alone", x, Towns.rich());
    }

    private static void oneMoreLadder() {
        LadderTown x = Due.town(50, 60, 40, 50);
        Due.is("it reaches its top", x.ladder(0, 10, 0, 1), 0);
        Due.is("it is too short", x.ladder(0, 9, 0, 1), 1);
        Due.is("its top is lower", x.ladder(0, 99, 0, 2), 2);
        Due.is("its top is as high", x.ladder(0, 99, 0, 3), 3);
        int[] stands = {1, 0, 0, 0};
        for (int i = 0; i < 4; i++) Due.is("whether " + i + " stands", x.told(i, 6), stands[i]);
    }

    private static void ladderRefused() {
        for (int k : NO_KIND) bad("kind " + k, x -> x.ladder(k, 5, 0, 1));
        int[] lengths = {0, -1, 100, Due.MAX, Due.MIN};
        for (int l : lengths) bad("length " + l, x -> x.ladder(0, l, 0, 1));
        for (int l : NO_LEDGE) {
            bad("foot " + l, x -> x.ladder(0, 5, l, 1));
            bad("top " + l, x -> x.ladder(0, 5, 0, l));
            bad("both " + l, x -> x.ladder(0, 5, l, l));
        }
        for (int l = 0; l < 5; l++) {
            int both = l;
            bad("foot and top are " + l, x -> x.ladder(0, 5, both, both));
        }
        Twins.refused("full", Towns::full, x -> x.ladder(0, 5, 0, 1), Due.FULL);
        Twins.refused("bad kind ahead of full", Towns::full, x -> x.ladder(6, 5, 0, 1), Due.BAD);
        Twins.refused("bad length ahead of full", Towns::full, x -> x.ladder(0, 0, 0, 1), Due.BAD);
        Twins.refused("bad foot ahead of full", Towns::full, x -> x.ladder(0, 5, 10, 1), Due.BAD);
        Twins.refused("bad top ahead of full", Towns::full, x -> x.ladder(0, 5, 0, 10), Due.BAD);
        Twins.refused("foot and top are one, ahead of full", Towns::full, x -> x.ladder(0, 5, 3, 3), Due.BAD);
    }

    private static void toldPlainly() {
        LadderTown x = Due.town(0, 10, 20, 30, 40, 50, 60, 70, 80, 90);
        for (int i = 0; i < 8; i++) {
            x.ladder(i % 6, i == 7 ? 99 : i + 1, 9 - i, i == 0 ? 0 : 9);
            Due.is("kind of " + i, x.told(i, 0), i % 6);
            Due.is("length of " + i, x.told(i, 1), i == 7 ? 99 : i + 1);
            Due.is("foot of " + i, x.told(i, 2), 9 - i);
            Due.is("top of " + i, x.told(i, 3), i == 0 ? 0 : 9);
        }
        int[] reach = {1, 5, 3, 8, 3, 3, 7, 102};
        for (int i = 0; i < 8; i++) Due.is("reach of " + i, x.told(i, 4), reach[i]);
    }

    private static void standsTold() {
        LadderTown x = Towns.rich();
        int[] stands = {1, 1, 1, 1, 0};
        for (int i = 0; i < 5; i++) Due.is("ladder " + i, x.told(i, 6), stands[i]);
    }

    private static void minutesTold() {
        LadderTown x = Due.town(0, 50, 99);
        x.ladder(0, 1, 0, 1);
        x.ladder(0, 99, 2, 1);
        Due.is("too short", x.told(0, 6), 0);
        Due.is("as if it stood", x.told(0, 5), 11);
        Due.is("its top is lower", x.told(1, 6), 0);
        Due.is("no rise", x.told(1, 5), 1);
    }

    private static void told() {
        LadderTown x = Towns.rich();
        int[] chain = {3, 30, 0, 2, 40, 11, 1, 1, 52, 6};
        int[] folded = {5, 40, 1, 3, 20, 7, 0, 0, 0, 4};
        for (int what = 0; what < 10; what++) {
            Due.is("the chain, " + what, x.told(3, what), chain[what]);
            Due.is("the folded one, " + what, x.told(4, what), folded[what]);
        }
    }

    private static void toldRefused() {
        for (int l : NO_LADDER) bad("ladder " + l, x -> x.told(l, 0));
        int[] whats = {-1, 10, Due.MAX, Due.MIN};
        for (int w : whats) bad("what " + w, x -> x.told(0, w));
    }

    private static void as() {
        int[][] of = {{0, 0, 13}, {1, 0, 18}, {1, 1, 18}, {2, 2, 24}, {2, 0, 24}, {3, 3, 30}, {3, 1, 30}, {3, 0, 30},
            {4, 5, 40}, {4, 0, 40}};
        for (int[] o : of) Twins.refused(o[0] + " as " + o[1], Towns::rich, x -> x.as(o[0], o[1]), o[2]);
    }

    private static void asRefused() {
        for (int l : NO_LADDER) bad("ladder " + l, x -> x.as(l, 0));
        for (int k : NO_KIND) bad("kind " + k, x -> x.as(0, k));
        Twins.refused("a ladder is no rope", Towns::rich, x -> x.as(0, 1), Due.KIND);
        Twins.refused("a rope is no chain", Towns::rich, x -> x.as(1, 3), Due.KIND);
        Twins.refused("heavy is no iron", Towns::rich, x -> x.as(2, 4), Due.KIND);
        Twins.refused("a chain is not heavy", Towns::rich, x -> x.as(3, 2), Due.KIND);
        Twins.refused("folded is no rope", Towns::rich, x -> x.as(4, 1), Due.KIND);
        Twins.refused("a chain is a rope", Towns::rich, x -> x.as(3, 1), 30);
        Twins.refused("all are ladders", Towns::rich, x -> x.as(4, 0), 40);
    }

    private static void turns() {
        LadderTown x = Towns.rich();
        int was = 3;
        int[] reach = {30, 33, 30, 40, 28, 15};
        for (int kind = 0; kind < 6; kind++) {
            Due.is("what it was", x.turns(3, kind), was);
            Due.is("what it is", x.told(3, 0), kind);
            Due.is("its reach", x.told(3, 4), reach[kind]);
            Due.is("its length stays", x.told(3, 1), 30);
            Due.is("its top stays", x.told(3, 3), 2);
            Due.is("it was moved all the same", x.told(3, 7), 1);
            was = kind;
        }
        Due.is("to what it is", x.turns(3, 5), 5);
        x.turns(3, 3);
        Twins.alike("turned and back", x, Towns.rich());
    }

    private static void turnsRefused() {
        for (int l : NO_LADDER) bad("ladder " + l, x -> x.turns(l, 0));
        for (int k : NO_KIND) bad("kind " + k, x -> x.turns(0, k));
    }

    private static void cut() {
        LadderTown x = Towns.rich();
        Due.is("what it was", x.cut(3, 99), 30);
        Due.is("the longest", x.told(3, 1), 99);
        Due.is("what it was", x.cut(3, 1), 99);
        Due.is("the shortest", x.told(3, 1), 1);
        Due.is("its top stays, though it does not stand", x.told(3, 3), 2);
        Due.is("it does not stand", x.told(3, 6), 0);
        Due.is("back", x.cut(3, 30), 1);
        Twins.alike("cut and back", x, Towns.rich());
    }

    private static void cutRefused() {
        for (int l : NO_LADDER) bad("ladder " + l, x -> x.cut(l, 5));
        int[] lengths = {0, -1, 100, Due.MAX, Due.MIN};
        for (int v : lengths) bad("length " + v, x -> x.cut(0, v));
    }

    private static void needsInAnyOrder() {
        LadderTown x = Towns.rich();
        for (int i = 0; i < 5; i++) {
            for (int k = 0; k < i; k++) Due.is(i + " and " + k, x.needs(i, k), x.needs(k, i));
        }
        Due.is("0 and 4", x.needs(0, 4), 49);
        Due.is("4 and 0", x.needs(4, 0), 49);
        Due.is("3 and 4, as high", x.needs(3, 4), 9);
    }

    private static void needsRefused() {
        for (int l : NO_LEDGE) {
            bad("one " + l, x -> x.needs(l, 0));
            bad("other " + l, x -> x.needs(0, l));
        }
        for (int l = 0; l < 5; l++) {
            int both = l;
            bad("one and itself: " + l, x -> x.needs(both, both));
        }
    }
}
