/** The sentences of part 2 of the terms: moves, ways, meetings, nights, draws. */
public final class Terms2SentencesTest {
    private static final String PART = "Terms 2";

    public static void main(String[] args) {
        Sentence.holds(PART, "To MOVE a LADDER: its TOP becomes another LEDGE that it REACHES; it was MOVED today.",
            Terms2SentencesTest::moves);
        Sentence.holds(PART, "To CLIMB one that STANDS: from FOOT to TOP, or from TOP to FOOT: MINUTES.",
            Terms2SentencesTest::climbs);
        Sentence.holds(PART, "A WAY from one LEDGE to another one: by LADDERS that STAND, up or down",
            Terms2SentencesTest::waysUpAndDown);
        Sentence.holds(PART, "it takes the MINUTES of all (0, if they are one).", Terms2SentencesTest::minutesOfAll);
        Sentence.holds(PART, "REACHED from a LEDGE: all to which there are WAYS (itself, too).",
            Terms2SentencesTest::reachedItselfToo);
        Sentence.holds(PART, "NEEDED for two LEDGES: each LADDER without which, all others as they are, there would be no WAY.",
            Terms2SentencesTest::needed);
        Sentence.holds(PART, "MEETING: the LEDGE to which there are WAYS for all PEOPLE with the least MINUTES of all together",
            Terms2SentencesTest::meeting);
        Sentence.holds(PART, "of several the least", Terms2SentencesTest::meetingOfSeveralTheLeast);
        Sentence.holds(PART, "ABOVE: PEOPLE from whose LEDGE there is no WAY to LEDGE 0.", Terms2SentencesTest::above);
        fewest();
        nights();
        Sentence.end("Terms2SentencesTest");
    }

    private static void fewest() {
        Sentence.holds(PART, "FEWEST MOVES of one of PEOPLE to a LEDGE: how many LADDERS (0 to 2) it must MOVE at least",
            Terms2SentencesTest::fewestOf0To2);
        Sentence.holds(PART, "one behind the other, each when it is on its FOOT", Terms2SentencesTest::fewestOneBehindTheOther);
        Sentence.holds(PART, "(it gets there by WAYS as LADDERS stand then; all others stay where they are)",
            Terms2SentencesTest::fewestOthersStay);
        Sentence.holds(PART, "so that there is a WAY to it then", Terms2SentencesTest::fewestWayThen);
    }

    private static void nights() {
        Sentence.holds(PART, "A NIGHT: no LADDER was MOVED any more", Terms2SentencesTest::nightEndsMoved);
        Sentence.holds(PART, "then for each LADDER by numbers a draw", Terms2SentencesTest::drawForEachLadder);
        Sentence.holds(PART, "if its rest by 100 is below THIEVES", Terms2SentencesTest::restBelowThieves);
        Sentence.holds(PART, "its TOP becomes the first LEDGE behind its TOP by numbers, round, that it REACHES",
            Terms2SentencesTest::nextTopRound);
        Sentence.holds(PART, "(if there is none, it stays)", Terms2SentencesTest::noneItStays);
        Sentence.holds(PART, "THE DAY is 1 more.", Terms2SentencesTest::dayIsOneMore);
        Sentence.holds(PART, "z is told (1 at first).", Terms2SentencesTest::zAtFirst);
        Sentence.holds(PART, "A draw: z becomes z * 1103515245 + 12345 (an int); it gives z >>> 8.",
            Terms2SentencesTest::drawsWrap);
        Sentence.holds(PART, "LEDGES that are drawn: HEIGHT the rest of a draw by 100, PLACE that of one more by 30.",
            Terms2SentencesTest::drawnLedges);
    }

    private static int drawn(int z) {
        return z * 1103515245 + 12345;
    }

    private static int restOf(int z) {
        return (z >>> 8) % 100;
    }

    private static void moves() {
        LadderTown x = Due.town(10, 20, 30, 31, 10, 0);
        x.ladder(1, 17, 0, 1);
        x.person(0, 0);
        Due.is("to its foot", x.move(0, 0, 0), Due.NO);
        Due.is("to where it leans", x.move(0, 0, 1), Due.NO);
        Due.is("to what is too far by one", x.move(0, 0, 3), Due.NO);
        Due.is("to what is as high", x.move(0, 0, 4), Due.NO);
        Due.is("to what is lower", x.move(0, 0, 5), Due.NO);
        Due.is("not moved by these", x.told(0, 7), 0);
        Due.is("to another one that it just reaches", x.move(0, 0, 2), 1);
        Due.is("its top", x.told(0, 3), 2);
        Due.is("it was moved today", x.told(0, 7), 1);
        Due.is("its foot stays", x.told(0, 2), 0);
        Due.is("who moved it stays", x.personTold(0, 0), 0);
        // Others on its foot, on its top or where it comes to do not hinder it, and stay.
        for (int others = 0; others < 3; others++) {
            LadderTown y = Due.town(0, 10, 20);
            y.ladder(1, 20, 0, 1);
            y.person(0, 0);
            for (int i = 0; i < 5; i++) y.person(others, 0);
            Due.is("with others on ledge " + others, y.move(0, 0, 2), 1);
            Due.is("they stay", y.ledgeTold(others, 2), others == 0 ? 6 : 5);
        }
    }

    private static void climbs() {
        LadderTown x = Due.town(0, 24, 40);
        for (int kind = 0; kind < 6; kind++) x.ladder(kind, 60, 0, 1);
        x.person(0, 0);
        int[] minutes = {5, 10, 6, 9, 6, 5};
        for (int kind = 0; kind < 6; kind++) {
            Due.is("up, kind " + kind, x.climb(0, kind), minutes[kind]);
            Due.is("above", x.personTold(0, 0), 1);
            Due.is("down, kind " + kind, x.climb(0, kind), minutes[kind]);
            Due.is("below", x.personTold(0, 0), 0);
        }
        Due.is("climbing moves no ladder", x.count(5), 0);
        x.thieves(0);
        x.nights(30);
        for (int kind = 0; kind < 6; kind++) {
            Due.is("another day, kind " + kind, x.climb(0, kind) + x.climb(0, kind), 2 * minutes[kind]);
        }
        x.cut(0, 23);
        Due.is("one that does not stand", x.climb(0, 0), Due.NO);
        Due.is("stays", x.personTold(0, 0), 0);
        x.set(0, 0, 1);
        Due.is("one that does not stand, from its top", x.climb(0, 0), Due.NO);
        x.set(0, 0, 2);
        Due.is("on neither end", x.climb(0, 1), Due.NO);
        Due.is("stays", x.personTold(0, 0), 2);
    }

    private static void waysUpAndDown() {
        LadderTown x = Due.town(0, 10, 20, 5);
        x.ladder(0, 10, 0, 1);
        x.ladder(0, 15, 3, 2);
        x.ladder(0, 10, 1, 2);
        Due.is("up, up, down", x.way(0, 3, 0), 3 + 3 + 4);
        Due.is("up, down, down", x.way(3, 0, 0), 10);
        x.cut(2, 9);
        Due.is("one does not stand", x.way(0, 3, 0), Due.NONE);
        Due.is("nor back", x.way(3, 0, 0), Due.NONE);
        x.ladder(0, 99, 2, 1);
        Due.is("a ladder to a lower top does not stand", x.way(1, 2, 0), Due.NONE);
    }

    private static void minutesOfAll() {
        LadderTown x = Due.town(50, 60, 70);
        x.ladder(1, 20, 0, 1);
        x.ladder(2, 20, 1, 2);
        Due.is("of both", x.way(0, 2, 0), 6 + 4);
        for (int ledge = 0; ledge < 3; ledge++) {
            Due.is("to itself", x.way(ledge, ledge, 0), 0);
            Due.is("to itself, ladders", x.way(ledge, ledge, 1), 0);
        }
        Due.is("one ledge alone to itself", Due.town(99).way(0, 0, 0), 0);
        LadderTown longest = Due.town(0, 1, 2, 3, 4, 5, 6, 7, 8, 9);
        for (int i = 0; i < 8; i++) longest.ladder(2, 9, i, i + 1);
        Due.is("of eight", longest.way(8, 0, 0), 16);
        Due.is("eight ladders", longest.way(0, 8, 1), 8);
        Due.is("not to the tenth ledge", longest.way(0, 9, 0), Due.NONE);
    }

    private static void reachedItselfToo() {
        LadderTown x = Due.town(0, 10, 20, 30, 40, 50, 60, 70, 80, 90);
        for (int i = 0; i < 10; i++) Due.is("alone: " + i, x.reached(i), 1 << i);
        for (int i = 0; i < 8; i++) x.ladder(0, 10, i, i + 1);
        for (int i = 0; i < 9; i++) Due.is("all below the last: " + i, x.reached(i), 511);
        Due.is("the last", x.reached(9), 512);
    }

    private static void needed() {
        LadderTown x = Due.town(0, 10, 20, 30, 40);
        x.ladder(0, 10, 0, 1);
        x.ladder(0, 10, 1, 2);
        x.ladder(0, 20, 0, 2);
        x.ladder(0, 10, 2, 3);
        Due.is("a ring is not needed, what leads on is", x.needed(0, 3), 8);
        Due.is("nothing in the ring", x.needed(0, 2), 0);
        Due.is("back again", x.needed(3, 0), 8);
        x.cut(2, 19);
        Due.is("the ring is open; what does not stand is not needed", x.needed(3, 0), 11);
        Due.is("of one and itself", x.needed(2, 2), 0);
        x.ladder(0, 10, 2, 3);
        Due.is("two beside one another", x.needed(2, 3), 0);
    }

    private static void meeting() {
        LadderTown x = Due.town(0, 10, 20, 30, 31);
        x.ladder(0, 10, 0, 1);
        x.ladder(1, 10, 1, 2);
        x.ladder(0, 10, 2, 3);
        x.person(0, 0);
        x.person(3, 0);
        x.person(3, 0);
        Due.is("where two of three are", x.meeting(), 3);
        x.set(1, 0, 2);
        x.set(2, 0, 1);
        // Minutes are 3, 6, 3 from ledge to ledge: 12, 9, 15, 24 together.
        Due.is("between them", x.meeting(), 1);
        x.person(4, 0);
        Due.is("no ways for all", x.meeting(), Due.NONE);
        for (int i = 0; i < 4; i++) x.set(i, 0, 4);
        Due.is("all are at one that has no ladders", x.meeting(), 4);
        LadderTown star = Due.town(30, 10, 20, 0);
        for (int i = 0; i < 3; i++) star.ladder(0, 30, 3, i);
        for (int i = 0; i < 3; i++) star.person(i, 0);
        // Minutes are 7, 3 and 5 to the middle: 22, 18, 20, 15 together.
        Due.is("in the middle, where nobody is", star.meeting(), 3);
    }

    private static void meetingOfSeveralTheLeast() {
        LadderTown x = Due.town(30, 20, 10, 0);
        for (int i = 0; i < 3; i++) x.ladder(0, 10, i + 1, i);
        x.person(3, 0);
        x.person(1, 0);
        Due.is("1, 2 and 3 take as long", x.meeting(), 1);
        x.set(1, 0, 0);
        Due.is("all four take as long", x.meeting(), 0);
    }

    private static void above() {
        LadderTown x = Due.town(50, 0, 60, 99);
        for (int i = 0; i < 4; i++) x.person(i, 0);
        Due.is("all but the one on ledge 0, below it, too", x.above(), 14);
        x.ladder(0, 50, 1, 0);
        Due.is("one comes up to it", x.above(), 12);
        x.ladder(0, 10, 0, 2);
        Due.is("one comes down to it", x.above(), 8);
        x.cut(1, 9);
        Due.is("its ladder stands no more", x.above(), 12);
        Due.is("nobody", new LadderTown().above(), 0);
        Due.is("nobody on ledges", Due.town(0, 9).above(), 0);
    }

    /** Ropes that each lift by 10, none of which stands. */
    private static LadderTown ropes() {
        LadderTown x = Due.town(0, 10, 20, 30);
        x.ladder(1, 7, 0, 3);
        x.ladder(1, 7, 1, 0);
        x.ladder(1, 7, 2, 0);
        x.person(0, 0);
        return x;
    }

    private static void fewestOf0To2() {
        LadderTown x = ropes();
        Due.is("there already", x.fewest(0, 0), 0);
        Due.is("by one", x.fewest(0, 1), 1);
        Due.is("by two", x.fewest(0, 2), 2);
        Due.is("by three: none", x.fewest(0, 3), Due.NONE);
        // The first of two is leant at ledge 0, from which the second one goes on.
        LadderTown y = Due.town(50, 0, 10, 60, 20);
        y.ladder(1, 47, 1, 2);
        y.ladder(1, 7, 0, 4);
        y.person(1, 0);
        Due.is("by two, over ledge 0", y.fewest(0, 3), 2);
        x.move(0, 0, 1);
        Due.is("by a way as it stands", x.fewest(0, 1), 0);
        Due.is("one was moved, one is left to move", x.fewest(0, 2), 1);
        Due.is("two are left", x.fewest(0, 3), 2);
        x.thieves(0);
        x.nights(1);
        Due.is("the day behind it still stands", x.fewest(0, 2), 1);
    }

    private static void fewestOneBehindTheOther() {
        LadderTown x = ropes();
        x.person(2, 0);
        Due.is("another one is above already", x.fewest(1, 3), 1);
        Due.is("it does not help the one below", x.fewest(0, 3), Due.NONE);
        x.set(0, 0, 1);
        Due.is("from its foot", x.fewest(0, 2), 1);
        Due.is("the foot of the first is out of reach", x.fewest(0, 0), Due.NONE);
        // One ladder alone cannot be moved twice in a day.
        LadderTown y = Due.town(0, 10, 20, 11);
        y.ladder(5, 40, 0, 3);
        y.person(0, 0);
        Due.is("by one", y.fewest(0, 1), 1);
        y.move(0, 0, 2);
        Due.is("moved today", y.fewest(0, 1), Due.NONE);
        Due.is("nothing was moved by asking", x.count(5), 0);
    }

    private static void fewestOthersStay() {
        LadderTown x = Due.town(0, 10, 20);
        x.ladder(0, 10, 0, 1);
        x.ladder(2, 10, 1, 0);
        x.person(0, 50);
        x.person(0, 50);
        Due.is("a heavy one, and the other one stays below", x.fewest(0, 2), Due.NONE);
        x.set(1, 0, 1);
        Due.is("the other one stands at its foot", x.fewest(0, 2), 1);
        Due.is("who stands at its foot has nobody", x.fewest(1, 2), Due.NONE);
        x.set(0, 0, 1);
        Due.is("both stand at its foot", x.fewest(1, 2), 1);
        x.set(0, 1, 9);
        Due.is("the weak one cannot", x.fewest(0, 2), Due.NONE);
        Due.is("the strong one can", x.fewest(1, 2), 1);
    }

    private static void fewestWayThen() {
        // Ladder 0 leans to ledge 1 and would reach ledge 2; ladder 1 stands from 2 to 3.
        LadderTown x = Due.town(0, 10, 20, 30);
        x.ladder(0, 20, 0, 1);
        x.ladder(0, 10, 2, 3);
        x.person(1, 20);
        Due.is("down by it, moved, and up by both", x.fewest(0, 3), 1);
        x.set(0, 1, 19);
        Due.is("too weak", x.fewest(0, 3), Due.NONE);
        x.set(0, 1, 20);
        x.cut(1, 9);
        Due.is("the other one does not stand", x.fewest(0, 3), Due.NONE);
        Due.is("a text lets one", Due.text(x, "move l>d"), 0);
        x.cut(1, 10);
        x.set(0, 1, 0);
        Due.is("by the text", x.fewest(0, 3), 1);
    }

    private static void nightEndsMoved() {
        for (int thieves = 0; thieves <= 100; thieves += 100) {
            LadderTown x = Due.town(0, 10, 20, 30);
            x.ladder(1, 40, 0, 1);
            x.ladder(5, 60, 0, 1);
            x.person(0, 0);
            x.thieves(thieves);
            x.move(0, 0, 2);
            x.move(0, 1, 3);
            Due.is("both were moved", x.count(5), 2);
            Due.is("thieves", x.nights(1), thieves / 50);
            Due.is("none was moved any more", x.count(5), 0);
            Due.is("not the first", x.told(0, 7), 0);
            Due.is("it may be moved again", x.may(0, 1), 1);
        }
    }

    private static LadderTown twoLadders() {
        LadderTown x = Due.town(0, 10, 20);
        x.ladder(0, 20, 0, 1);
        x.ladder(0, 20, 0, 1);
        return x;
    }

    private static void drawForEachLadder() {
        for (int seed = 1; seed < 9; seed++) {
            int first = drawn(seed), second = drawn(first);
            LadderTown x = twoLadders();
            x.seed(seed);
            x.thieves(Math.max(restOf(first), restOf(second)));
            Due.is("seed " + seed + ": one alone", x.nights(1), restOf(first) == restOf(second) ? 0 : 1);
            Due.is("ladder 0 by the first draw", x.told(0, 3), restOf(first) < restOf(second) ? 2 : 1);
            Due.is("ladder 1 by the second", x.told(1, 3), restOf(second) < restOf(first) ? 2 : 1);
            Due.is("z", x.count(9), second);
        }
        LadderTown x = twoLadders();
        x.ladder(0, 1, 0, 1);
        x.thieves(0);
        x.nights(1);
        Due.is("a draw for one that reaches nothing, and without thieves", x.count(9), drawn(drawn(drawn(1))));
        LadderTown none = Due.town(0, 10);
        none.thieves(100);
        Due.is("no ladders", none.nights(30), 0);
        Due.is("no draws", none.count(9), 1);
    }

    private static void restBelowThieves() {
        for (int seed = -5; seed < 15; seed++) {
            int rest = restOf(drawn(seed));
            LadderTown x = Due.town(0, 10, 20);
            x.ladder(0, 20, 0, 1);
            x.seed(seed);
            x.thieves(rest);
            Due.is("seed " + seed + ": thieves are as much", x.nights(1), 0);
            x.seed(seed);
            x.thieves(rest + 1);
            Due.is("seed " + seed + ": thieves are one more", x.nights(1), 1);
        }
        LadderTown x = twoLadders();
        x.thieves(0);
        Due.is("0: never", x.nights(30), 0);
        x.thieves(100);
        Due.is("100: always", x.nights(30), 60);
    }

    private static void nextTopRound() {
        // From ledge 2 the ledges 0, 4 and 5 are reached; 1 is lower, 3 is too far.
        LadderTown x = Due.town(20, 0, 10, 90, 30, 40);
        x.ladder(0, 30, 2, 3);
        x.thieves(100);
        int[] tops = {4, 5, 0, 4, 5, 0};
        for (int top : tops) {
            Due.is("one came to another top", x.nights(1), 1);
            Due.is("its top", x.told(0, 3), top);
        }
        LadderTown y = Due.town(0, 10, 20);
        y.ladder(0, 20, 0, 2);
        y.thieves(100);
        Due.is("from the last one round, past its foot", y.nights(1), 1);
        Due.is("its top", y.told(0, 3), 1);
        for (int i = 0; i < 6; i++) y.person(i / 2, 99);
        Due.is("people do not hinder it", y.nights(3), 3);
        for (int i = 0; i < 3; i++) Due.is("they stay on ledge " + i, y.ledgeTold(i, 2), 2);
    }

    private static void noneItStays() {
        LadderTown x = Due.town(50, 40, 60, 99);
        x.ladder(0, 9, 0, 1);
        x.ladder(0, 10, 0, 2);
        x.thieves(100);
        Due.is("none came to another top", x.nights(30), 0);
        Due.is("it reaches nothing", x.told(0, 3), 1);
        Due.is("it reaches its top alone", x.told(1, 3), 2);
        x.cut(0, 10);
        Due.is("it reaches one", x.nights(1), 1);
        Due.is("it leans there", x.told(0, 3), 2);
        Due.is("and stays there", x.nights(1), 0);
    }

    private static void dayIsOneMore() {
        LadderTown x = new LadderTown();
        x.nights(1);
        Due.is("one", x.count(3), 1);
        x.nights(30);
        Due.is("thirty more", x.count(3), 31);
        LadderTown y = Due.town(0, 10);
        y.ladder(0, 99, 0, 1);
        y.person(0, 0);
        Due.text(y, "move d=3");
        y.nights(2);
        Due.is("on day 2", y.may(0, 0), 0);
        y.nights(1);
        Due.is("on day 3", y.may(0, 0), 1);
        y.nights(1);
        Due.is("on day 4", y.may(0, 0), 0);
        Due.text(y, "move d=154");
        for (int i = 0; i < 5; i++) y.nights(30);
        Due.is("day 154", y.count(3), 154);
        Due.is("on day 154", y.may(0, 0), 1);
    }

    private static void zAtFirst() {
        LadderTown x = new LadderTown();
        Due.is("z", x.count(9), 1);
        Due.is("what it was", x.seed(1), 1);
        x.deal(1);
        Due.is("z behind two draws", x.count(9), drawn(drawn(1)));
    }

    private static void drawsWrap() {
        int[] seeds = {0, 1, -1, Due.MAX, Due.MIN, 1 << 30, 77777777};
        // Worked out with longs, of which the lowest 32 bits are left.
        int[] due = new int[seeds.length];
        for (int i = 0; i < seeds.length; i++) due[i] = (int) (seeds[i] * 1103515245L + 12345L);
        Due.is("as told", due[0], 12345);
        Due.is("as told", due[2], -1103502900);
        Due.is("as told", due[4], -2147471303);
        for (int i = 0; i < seeds.length; i++) {
            LadderTown x = Due.town(0, 10);
            x.ladder(0, 10, 0, 1);
            x.seed(seeds[i]);
            x.nights(1);
            Due.is("from " + seeds[i], x.count(9), due[i]);
            x.seed(seeds[i]);
            x.deal(1);
            Due.is("without its sign, from " + seeds[i], x.ledgeTold(2, 0), (due[i] >>> 8) % 100);
        }
    }

    private static void drawnLedges() {
        int[] seeds = {1, -1, Due.MIN, Due.MAX, 2026};
        for (int seed : seeds) {
            LadderTown x = new LadderTown();
            x.seed(seed);
            Due.is("ten", x.deal(10), 10);
            int z = seed;
            for (int i = 0; i < 10; i++) {
                z = drawn(z);
                Due.is("height of " + i, x.ledgeTold(i, 0), restOf(z));
                z = drawn(z);
                Due.is("place of " + i, x.ledgeTold(i, 1), (z >>> 8) % 30);
            }
            Due.is("z", x.count(9), z);
        }
    }
}
