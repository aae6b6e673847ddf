/** The sentences of part 1 of the terms: ledges, ladders and their kinds, people. */
public final class Terms1SentencesTest {
    private static final String PART = "Terms 1";

    public static void main(String[] args) {
        Sentence.holds(PART, "LEDGES, 10 at most, numbered from 0", Terms1SentencesTest::tenLedges);
        Sentence.holds(PART, "HEIGHT 0 .. 99", Terms1SentencesTest::heights);
        Sentence.holds(PART, "PLACE 0 .. 29", Terms1SentencesTest::places);
        Sentence.holds(PART, "(several may be at one)", Terms1SentencesTest::severalAtOne);
        Sentence.holds(PART, "LADDERS, 8 at most, numbered from 0", Terms1SentencesTest::eightLadders);
        Sentence.holds(PART, "LENGTH 1 .. 99", Terms1SentencesTest::lengths);
        Sentence.holds(PART, "a FOOT and a TOP (two LEDGES)", Terms1SentencesTest::footAndTop);
        Sentence.holds(PART, "MOVED today or not (not, at first)", Terms1SentencesTest::notMovedAtFirst);
        Sentence.holds(PART, "and of KINDS: 0 LADDER; 1 ROPE, 2 HEAVY, 5 FOLDED, under LADDER; 3 CHAIN, under ROPE; "
            + "4 IRON, under HEAVY (all are LADDERS)", Terms1SentencesTest::kinds);
        Sentence.holds(PART, "PEOPLE, 6 at most, numbered from 0: on a LEDGE", Terms1SentencesTest::sixPeople);
        Sentence.holds(PART, "STRENGTH 0 .. 99", Terms1SentencesTest::strengths);
        Sentence.holds(PART, "THE DAY is 0 at first", Terms1SentencesTest::dayAtFirst);
        Sentence.holds(PART, "THIEVES 0 .. 100 (20 at first)", Terms1SentencesTest::thievesAtFirst);
        needsAndReach();
        minutesAndWorth();
        whoMayMove();
        Sentence.end("Terms1SentencesTest");
    }

    private static void needsAndReach() {
        Sentence.holds(PART, "NEEDS of two LEDGES, the lower one first: what lean gives", Terms1SentencesTest::lowerFirst);
        Sentence.holds(PART, "held within 0 .. 999", Terms1SentencesTest::needsAreHeld);
        Sentence.holds(PART, "(without a TEXT: their HEIGHTS' and their PLACES' differences together)",
            Terms1SentencesTest::needsWithoutText);
        Sentence.holds(PART, "REACH: LADDER: LENGTH. ROPE: as LADDER, and 3.", Terms1SentencesTest::reachOfLadderAndRope);
        Sentence.holds(PART, "CHAIN: as ROPE, and LENGTH / 4.", Terms1SentencesTest::reachOfChain);
        Sentence.holds(PART, "IRON: as HEAVY, less 2 (0 at least).", Terms1SentencesTest::reachOfIron);
        Sentence.holds(PART, "FOLDED: half (cut) of as LADDER.", Terms1SentencesTest::reachOfFolded);
        Sentence.holds(PART, "A LADDER REACHES a LEDGE from its FOOT, if that is higher", Terms1SentencesTest::higherAlone);
        Sentence.holds(PART, "and they NEED no more than its REACH.", Terms1SentencesTest::noMoreThanItsReach);
        Sentence.holds(PART, "It STANDS, if it REACHES its TOP.", Terms1SentencesTest::stands);
    }

    private static void minutesAndWorth() {
        Sentence.holds(PART, "MINUTES: LADDER: the rise (what its TOP is higher than its FOOT; 0 if it is not) by 5 (cut), "
            + "and 1.", Terms1SentencesTest::minutesOfLadder);
        Sentence.holds(PART, "ROPE: twice as LADDER. CHAIN: as ROPE, less 1. HEAVY: as LADDER, and 1.",
            Terms1SentencesTest::minutesOfKinds);
        Sentence.holds(PART, "WORTH: LADDER: LENGTH. ROPE: as LADDER, less 4. CHAIN: twice as ROPE. HEAVY: as LADDER, and 9. "
            + "IRON: as HEAVY, and 20. FOLDED: 40 less LENGTH.", Terms1SentencesTest::worth);
        Sentence.holds(PART, "(A KIND that is not named does as the one above it.)", Terms1SentencesTest::asTheOneAbove);
    }

    private static void whoMayMove() {
        Sentence.holds(PART, "One of PEOPLE MAY MOVE a LADDER on whose FOOT it is", Terms1SentencesTest::onItsFootAlone);
        Sentence.holds(PART, "that was not MOVED today", Terms1SentencesTest::notMovedToday);
        Sentence.holds(PART, "LADDER: if move gives what is not 0", Terms1SentencesTest::moveGivesNot0);
        Sentence.holds(PART, "(without a TEXT: if STRENGTH is LENGTH or more)", Terms1SentencesTest::strengthIsLengthOrMore);
        Sentence.holds(PART, "ROPE: always.", Terms1SentencesTest::ropeAlways);
        Sentence.holds(PART, "HEAVY: as LADDER, and if one more of PEOPLE is there.", Terms1SentencesTest::heavyWithOneMore);
        Sentence.holds(PART, "FOLDED: always.", Terms1SentencesTest::foldedAlways);
    }

    private static void tenLedges() {
        LadderTown x = new LadderTown();
        for (int i = 0; i < 10; i++) Due.is("ledge " + i, x.ledge(i, i), i);
        Due.is("the eleventh", x.ledge(0, 0), Due.FULL);
        Due.is("the eleventh, drawn", x.deal(1), 0);
        Due.is("how many", x.count(0), 10);
        for (int i = 0; i < 10; i++) Due.is("height of " + i, x.ledgeTold(i, 0), i);
        Due.is("no ledge 10", x.ledgeTold(10, 0), Due.BAD);
        Due.is("no ledge -1", x.ledgeTold(-1, 0), Due.BAD);
        LadderTown drawn = new LadderTown();
        Due.is("ten are drawn", drawn.deal(10), 10);
        Due.is("the eleventh", drawn.ledge(0, 0), Due.FULL);
    }

    private static void heights() {
        LadderTown x = new LadderTown();
        Due.is("-1", x.ledge(-1, 5), Due.BAD);
        Due.is("0", x.ledge(0, 5), 0);
        Due.is("99", x.ledge(99, 5), 1);
        Due.is("100", x.ledge(100, 5), Due.BAD);
        Due.is("lowest", x.ledgeTold(0, 0), 0);
        Due.is("highest", x.ledgeTold(1, 0), 99);
        Due.is("to -1", x.change(0, 0, -1), Due.BAD);
        Due.is("to 100", x.change(0, 0, 100), Due.BAD);
        Due.is("to 99", x.change(0, 0, 99), 0);
        Due.is("to 0", x.change(1, 0, 0), 99);
    }

    private static void places() {
        LadderTown x = new LadderTown();
        Due.is("-1", x.ledge(5, -1), Due.BAD);
        Due.is("0", x.ledge(5, 0), 0);
        Due.is("29", x.ledge(5, 29), 1);
        Due.is("30", x.ledge(5, 30), Due.BAD);
        Due.is("least", x.ledgeTold(0, 1), 0);
        Due.is("greatest", x.ledgeTold(1, 1), 29);
        Due.is("to -1", x.change(0, 1, -1), Due.BAD);
        Due.is("to 30", x.change(0, 1, 30), Due.BAD);
        Due.is("to 29", x.change(0, 1, 29), 0);
        Due.is("to 0", x.change(1, 1, 0), 29);
    }

    private static void severalAtOne() {
        LadderTown x = new LadderTown();
        for (int i = 0; i < 3; i++) Due.is("again", x.ledge(40, 7), i);
        Due.is("they need nothing", x.needs(0, 2), 0);
        Due.is("a ladder between them", x.ladder(0, 99, 0, 2), 0);
        Due.is("does not stand", x.told(0, 6), 0);
        Due.is("there is no way", x.way(0, 2, 0), Due.NONE);
        x.ledge(0, 0);
        Due.is("one comes to another one's place", x.change(3, 0, 40) + x.change(3, 1, 7), 0);
        Due.is("they need nothing", x.needs(3, 1), 0);
    }

    private static void eightLadders() {
        LadderTown x = Due.town(0, 10);
        for (int i = 0; i < 8; i++) Due.is("ladder " + i, x.ladder(0, 50 + i, 0, 1), i);
        Due.is("the ninth", x.ladder(0, 50, 0, 1), Due.FULL);
        Due.is("how many", x.count(1), 8);
        for (int i = 0; i < 8; i++) Due.is("length of " + i, x.told(i, 1), 50 + i);
        Due.is("no ladder 8", x.told(8, 1), Due.BAD);
        Due.is("no ladder -1", x.told(-1, 1), Due.BAD);
    }

    private static void lengths() {
        LadderTown x = Due.town(0, 10);
        Due.is("0", x.ladder(0, 0, 0, 1), Due.BAD);
        Due.is("1", x.ladder(0, 1, 0, 1), 0);
        Due.is("99", x.ladder(0, 99, 0, 1), 1);
        Due.is("100", x.ladder(0, 100, 0, 1), Due.BAD);
        Due.is("-1", x.ladder(0, -1, 0, 1), Due.BAD);
        Due.is("to 0", x.cut(0, 0), Due.BAD);
        Due.is("to 100", x.cut(0, 100), Due.BAD);
        Due.is("to 99", x.cut(0, 99), 1);
        Due.is("to 1", x.cut(1, 1), 99);
        Due.is("longest", x.told(0, 1), 99);
        Due.is("shortest", x.told(1, 1), 1);
    }

    private static void footAndTop() {
        LadderTown x = Due.town(10, 0);
        Due.is("both one", x.ladder(0, 5, 1, 1), Due.BAD);
        Due.is("both ledge 0", x.ladder(0, 5, 0, 0), Due.BAD);
        Due.is("up", x.ladder(0, 5, 1, 0), 0);
        Due.is("the top may be lower", x.ladder(0, 5, 0, 1), 1);
        Due.is("several at the same two", x.ladder(0, 5, 1, 0), 2);
        Due.is("foot", x.told(1, 2), 0);
        Due.is("top", x.told(1, 3), 1);
    }

    private static void notMovedAtFirst() {
        LadderTown x = Due.town(0, 10);
        for (int kind = 0; kind < 6; kind++) {
            x.ladder(kind, 20, 0, 1);
            Due.is("kind " + kind, x.told(kind, 7), 0);
        }
        Due.is("how many", x.count(5), 0);
    }

    private static void kinds() {
        boolean[][] is = {
            {true, false, false, false, false, false},
            {true, true, false, false, false, false},
            {true, false, true, false, false, false},
            {true, true, false, true, false, false},
            {true, false, true, false, true, false},
            {true, false, false, false, false, true},
        };
        LadderTown x = Due.town(0, 10);
        Due.is("kind -1", x.ladder(-1, 20, 0, 1), Due.BAD);
        Due.is("kind 6", x.ladder(6, 20, 0, 1), Due.BAD);
        for (int kind = 0; kind < 6; kind++) {
            Due.is("kind " + kind, x.ladder(kind, 20 + kind, 0, 1), kind);
            Due.is("told", x.told(kind, 0), kind);
            x.lay(0, 1, kind);
            for (int as = 0; as < 6; as++) {
                Due.is(kind + " as " + as, x.as(kind, as), is[kind][as] ? 20 + kind : Due.KIND);
                Due.is(kind + " asked as " + as, x.ask(0, as), is[kind][as] ? x.told(kind, 8) : Due.KIND);
            }
        }
    }

    private static void sixPeople() {
        LadderTown x = Due.town(0, 10);
        for (int i = 0; i < 6; i++) Due.is("person " + i, x.person(i % 2, 30 + i), i);
        Due.is("the seventh", x.person(0, 0), Due.FULL);
        Due.is("how many", x.count(2), 6);
        for (int i = 0; i < 6; i++) {
            Due.is("its ledge", x.personTold(i, 0), i % 2);
            Due.is("its strength", x.personTold(i, 1), 30 + i);
        }
        Due.is("three on one ledge", x.ledgeTold(1, 2), 3);
        Due.is("no person 6", x.personTold(6, 0), Due.BAD);
        Due.is("no person -1", x.personTold(-1, 0), Due.BAD);
    }

    private static void strengths() {
        LadderTown x = Due.town(0);
        Due.is("-1", x.person(0, -1), Due.BAD);
        Due.is("0", x.person(0, 0), 0);
        Due.is("99", x.person(0, 99), 1);
        Due.is("100", x.person(0, 100), Due.BAD);
        Due.is("to -1", x.set(0, 1, -1), Due.BAD);
        Due.is("to 100", x.set(0, 1, 100), Due.BAD);
        Due.is("to 99", x.set(0, 1, 99), 0);
        Due.is("to 0", x.set(1, 1, 0), 99);
        Due.is("strongest", x.personTold(0, 1), 99);
        Due.is("weakest", x.personTold(1, 1), 0);
    }

    private static void dayAtFirst() {
        LadderTown x = Due.town(0, 10);
        Due.is("told", x.count(3), 0);
        x.ladder(0, 50, 0, 1);
        x.person(0, 0);
        Due.text(x, "move d=0");
        Due.is("as a text sees it", x.may(0, 0), 1);
    }

    private static void thievesAtFirst() {
        LadderTown x = new LadderTown();
        Due.is("-1", x.thieves(-1), Due.BAD);
        Due.is("101", x.thieves(101), Due.BAD);
        Due.is("100", x.thieves(100), 20);
        Due.is("0", x.thieves(0), 100);
        Due.is("again", x.thieves(0), 0);
    }

    private static void lowerFirst() {
        LadderTown x = new LadderTown();
        x.ledge(70, 4);
        x.ledge(20, 24);
        x.ledge(70, 9);
        Due.text(x, "lean h*10+p");
        Due.is("the higher one named first", x.needs(0, 1), 520);
        Due.is("the lower one named first", x.needs(1, 0), 520);
        Due.is("none is lower", x.needs(0, 2), 5);
        Due.is("none is lower", x.needs(2, 0), 5);
        x.ladder(0, 99, 1, 0);
        Due.text(x, "lean h*2-1");
        Due.is("one stands by it", x.told(0, 6), 1);
        Due.text(x, "lean h*2");
        Due.is("another text counts", x.told(0, 6), 0);
    }

    private static void needsAreHeld() {
        String[] laws = {"998", "999", "1000", "9999", "1", "0", "0-1", "0-9999", "2048*1024*1024-1", "2048*1024*1024"};
        int[] due = {998, 999, 999, 999, 1, 0, 0, 0, 999, 0};
        LadderTown x = Due.town(0, 10);
        x.ladder(4, 1, 0, 1);
        for (int i = 0; i < laws.length; i++) {
            Due.is("a text", Due.text(x, "lean " + laws[i]), i);
            Due.is(laws[i], x.needs(0, 1), due[i]);
            Due.is("reached with a reach of 0 at " + laws[i], x.told(0, 9), due[i] == 0 ? 2 : 0);
        }
    }

    private static void needsWithoutText() {
        LadderTown x = new LadderTown();
        x.ledge(0, 29);
        x.ledge(99, 0);
        x.ledge(0, 29);
        x.ledge(99, 29);
        Due.is("the most", x.needs(0, 1), 128);
        Due.is("the most, the other one first", x.needs(1, 0), 128);
        Due.is("nothing", x.needs(0, 2), 0);
        Due.is("heights alone", x.needs(3, 2), 99);
        Due.is("places alone", x.needs(3, 1), 29);
        Due.text(x, "move 1");
        Due.text(x, "toll 1");
        Due.is("texts of other keys", x.needs(0, 1), 128);
    }

    private static void reach(int kind, int[] lengths, int[] due) {
        LadderTown x = Due.town(0, 10);
        x.ladder(kind, 50, 0, 1);
        for (int i = 0; i < lengths.length; i++) {
            x.cut(0, lengths[i]);
            Due.is("kind " + kind + ", length " + lengths[i], x.told(0, 4), due[i]);
        }
    }

    private static void reachOfLadderAndRope() {
        int[] lengths = {1, 2, 50, 99};
        reach(0, lengths, new int[] {1, 2, 50, 99});
        reach(1, lengths, new int[] {4, 5, 53, 102});
    }

    private static void reachOfChain() {
        reach(3, new int[] {1, 3, 4, 7, 8, 98, 99}, new int[] {4, 6, 8, 11, 13, 125, 126});
    }

    private static void reachOfIron() {
        reach(4, new int[] {1, 2, 3, 4, 99}, new int[] {0, 0, 1, 2, 97});
        LadderTown x = Due.town(0, 1);
        x.ladder(4, 2, 0, 1);
        Due.is("nothing by 0", x.told(0, 9), 0);
        Due.text(x, "lean 0");
        Due.is("what needs 0 is reached by 0", x.told(0, 9), 2);
        x.cut(0, 1);
        Due.is("and by 0 at least", x.told(0, 9), 2);
    }

    private static void reachOfFolded() {
        reach(5, new int[] {1, 2, 3, 98, 99}, new int[] {0, 1, 1, 49, 49});
    }

    private static void higherAlone() {
        LadderTown x = Due.town(50, 49, 50, 51, 0, 99);
        for (int kind = 0; kind < 6; kind++) {
            x.ladder(kind, 99, 0, 4);
            Due.text(x, "lean 0");
            Due.is("kind " + kind + ": neither itself, nor as high, nor lower", x.told(kind, 9), 8 + 32);
        }
    }

    private static void noMoreThanItsReach() {
        LadderTown x = new LadderTown();
        x.ledge(0, 0);
        x.ledge(20, 0);
        x.ledge(15, 5);
        x.ledge(20, 1);
        x.ledge(1, 20);
        int[] lengths = {20, 17, 20, 14, 22, 40};
        for (int kind = 0; kind < 6; kind++) {
            x.ladder(kind, lengths[kind], 0, 1);
            Due.is("kind " + kind + " has a reach of 20", x.told(kind, 4), 20);
            Due.is("kind " + kind + ": 20 is reached, 21 is not", x.told(kind, 9), 6);
        }
    }

    private static void stands() {
        LadderTown x = Due.town(10, 30, 31, 10, 0);
        x.ladder(0, 20, 0, 1);
        int[] due = {0, 1, 0, 0, 0};
        for (int top = 1; top < 5; top++) {
            x.ladder(0, 20, 0, top);
            Due.is("top " + top, x.told(top, 6), due[top]);
        }
        Due.is("how many", x.count(4), 2);
        x.change(1, 0, 9);
        Due.is("its top sank below it", x.told(0, 6), 0);
        x.change(1, 0, 30);
        x.change(0, 0, 9);
        Due.is("its foot sank", x.told(0, 6), 0);
        x.cut(0, 21);
        Due.is("it is longer", x.told(0, 6), 1);
    }

    private static void minutes(int kind, int[] due) {
        int[] tops = {0, 49, 50, 51, 54, 55, 59, 60, 99};
        LadderTown x = Due.town(50, 0);
        x.ladder(kind, 1, 0, 1);
        for (int i = 0; i < tops.length; i++) {
            x.change(1, 0, tops[i]);
            Due.is("kind " + kind + " from 50 to " + tops[i], x.told(0, 5), due[i]);
        }
        x.change(0, 0, 0);
        Due.is("kind " + kind + " from 0 to 99", x.told(0, 5), due[9]);
    }

    private static void minutesOfLadder() {
        minutes(0, new int[] {1, 1, 1, 1, 1, 2, 2, 3, 10, 20});
    }

    private static void minutesOfKinds() {
        minutes(1, new int[] {2, 2, 2, 2, 2, 4, 4, 6, 20, 40});
        minutes(3, new int[] {1, 1, 1, 1, 1, 3, 3, 5, 19, 39});
        minutes(2, new int[] {2, 2, 2, 2, 2, 3, 3, 4, 11, 21});
    }

    private static void worth() {
        int[] lengths = {1, 3, 4, 5, 39, 40, 41, 99};
        int[][] due = {
            {1, 3, 4, 5, 39, 40, 41, 99},
            {-3, -1, 0, 1, 35, 36, 37, 95},
            {10, 12, 13, 14, 48, 49, 50, 108},
            {-6, -2, 0, 2, 70, 72, 74, 190},
            {30, 32, 33, 34, 68, 69, 70, 128},
            {39, 37, 36, 35, 1, 0, -1, -59},
        };
        for (int kind = 0; kind < 6; kind++) {
            LadderTown x = Due.town(0, 10);
            x.ladder(kind, 50, 0, 1);
            for (int i = 0; i < lengths.length; i++) {
                x.cut(0, lengths[i]);
                x.lay(0, 1, 0);
                Due.is("kind " + kind + ", length " + lengths[i], x.told(0, 8), due[kind][i]);
                Due.is("the same in a slot", x.ask(0, kind), due[kind][i]);
            }
        }
    }

    private static void asTheOneAbove() {
        reach(2, new int[] {1, 50, 99}, new int[] {1, 50, 99});
        minutes(4, new int[] {2, 2, 2, 2, 2, 3, 3, 4, 11, 21});
        minutes(5, new int[] {1, 1, 1, 1, 1, 2, 2, 3, 10, 20});
        LadderTown x = Due.town(0, 10);
        x.ladder(3, 99, 0, 1);
        x.ladder(4, 50, 0, 1);
        x.person(0, 49);
        x.person(1, 99);
        Due.is("a chain as a rope", x.may(0, 0), 1);
        Due.is("iron as heavy: weak and alone", x.may(0, 1), 0);
        x.set(0, 1, 50);
        Due.is("iron as heavy: alone", x.may(0, 1), 0);
        x.set(1, 0, 0);
        Due.is("iron as heavy: strong, and with one more", x.may(0, 1), 1);
        x.set(0, 1, 49);
        Due.is("iron as heavy: weak", x.may(0, 1), 0);
    }

    private static LadderTown withPeople(int kind, int length, int strength) {
        LadderTown x = Due.town(0, 10, 20);
        x.ladder(kind, length, 0, 1);
        x.person(0, strength);
        x.person(0, 0);
        return x;
    }

    private static void onItsFootAlone() {
        for (int kind = 0; kind < 6; kind++) {
            LadderTown x = withPeople(kind, 60, 99);
            Due.is("kind " + kind + ", on its foot", x.may(0, 0), 1);
            x.set(0, 0, 1);
            x.set(1, 0, 1);
            Due.is("kind " + kind + ", on its top", x.may(0, 0), 0);
            x.set(0, 0, 2);
            x.set(1, 0, 2);
            Due.is("kind " + kind + ", elsewhere", x.may(0, 0), 0);
            Due.text(x, "move 1");
            Due.is("kind " + kind + ", elsewhere, whatever a text gives", x.may(0, 0), 0);
        }
    }

    private static void notMovedToday() {
        for (int kind = 0; kind < 6; kind++) {
            LadderTown x = withPeople(kind, 60, 99);
            x.set(1, 1, 99);
            x.thieves(0);
            Due.is("kind " + kind + " is moved", x.move(0, 0, 2), 1);
            Due.is("not again", x.may(0, 0), 0);
            Due.is("nor by another one", x.may(1, 0), 0);
            Due.is("nor back", x.move(1, 0, 1), Due.NO);
            x.nights(1);
            Due.is("the day behind", x.may(0, 0), 1);
            Due.is("and back", x.move(1, 0, 1), 2);
        }
    }

    private static void moveGivesNot0() {
        String[] laws = {"0", "1", "2", "0-1", "2048*1024*1024", "2048*1024*1024*2", "s-99", "l-60", "d"};
        int[] due = {0, 1, 1, 1, 1, 0, 0, 0, 0};
        LadderTown x = withPeople(0, 60, 99);
        for (int i = 0; i < laws.length; i++) {
            Due.is("a text", Due.text(x, "move " + laws[i]), i);
            Due.is(laws[i], x.may(0, 0), due[i]);
        }
        x.thieves(0);
        x.nights(1);
        Due.is("d, a day later", x.may(0, 0), 1);
    }

    private static void strengthIsLengthOrMore() {
        int[][] cases = {{60, 59, 0}, {60, 60, 1}, {60, 61, 1}, {1, 0, 0}, {1, 1, 1}, {99, 98, 0}, {99, 99, 1}};
        LadderTown x = withPeople(0, 60, 99);
        for (int[] c : cases) {
            x.cut(0, c[0]);
            x.set(0, 1, c[1]);
            Due.is("strength " + c[1] + ", length " + c[0], x.may(0, 0), c[2]);
        }
        Due.text(x, "lean h");
        Due.text(x, "toll 0");
        Due.is("texts of other keys", x.may(0, 0), 1);
    }

    private static void always(int kind) {
        LadderTown x = withPeople(kind, 99, 0);
        Due.is("the weakest, the longest", x.may(0, 0), 1);
        x.set(1, 0, 1);
        Due.is("alone", x.may(0, 0), 1);
        Due.text(x, "move 0");
        Due.is("whatever a text gives", x.may(0, 0), 1);
    }

    private static void ropeAlways() {
        always(1);
        always(3);
    }

    private static void heavyWithOneMore() {
        LadderTown x = withPeople(2, 60, 60);
        Due.is("with one more, who need not be strong", x.may(0, 0), 1);
        Due.is("the weak one itself", x.may(1, 0), 0);
        x.person(0, 0);
        Due.is("with two more", x.may(0, 0), 1);
        x.set(2, 0, 2);
        x.set(1, 0, 1);
        Due.is("the others on its top and elsewhere", x.may(0, 0), 0);
        x.set(1, 0, 0);
        Due.text(x, "move 0");
        Due.is("a text gives 0", x.may(0, 0), 0);
        Due.text(x, "move 1");
        Due.is("a text gives 1", x.may(1, 0), 1);
        x.set(0, 0, 1);
        Due.is("a text gives 1, but alone", x.may(1, 0), 0);
    }

    private static void foldedAlways() {
        always(5);
    }
}
