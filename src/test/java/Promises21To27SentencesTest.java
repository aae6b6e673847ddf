import java.util.function.Supplier;
import java.util.function.ToIntFunction;

/** The sentences of promises 21 to 27: edges of what is asked of ways, and refused calls; no call of these changes anything. */
public final class Promises21To27SentencesTest {
    private static final int[] NO_LEDGE = {-1, 5, 10, Due.MAX, Due.MIN};
    private static final int[] NO_PERSON = {-1, 4, 6, Due.MAX, Due.MIN};
    private static final int[] NO_WHAT = {-1, 3, Due.MAX, Due.MIN};

    public static void main(String[] args) {
        Sentence.holds("Promise 21", "The least MINUTES of a WAY (what 0)", Promises21To27SentencesTest::leastMinutes);
        Sentence.holds("Promise 21", "the fewest LADDERS of those that take as many (1)",
            Promises21To27SentencesTest::fewestLadders);
        Sentence.holds("Promise 21", "TOLL of it (2).", Promises21To27SentencesTest::tollOfIt);
        Sentence.holds("Promise 21", "BAD; NONE: there is none.", Promises21To27SentencesTest::wayRefused);
        Sentence.holds("Promise 22", "REACHED, as a set.", Promises21To27SentencesTest::reached);
        Sentence.holds("Promise 22", "BAD.", Promises21To27SentencesTest::reachedRefused);
        Sentence.holds("Promise 23", "NEEDED, as a set.", Promises21To27SentencesTest::needed);
        Sentence.holds("Promise 23", "BAD; NONE: there is no WAY.", Promises21To27SentencesTest::neededRefused);
        Sentence.holds("Promise 24", "MEETING.", Promises21To27SentencesTest::meeting);
        Sentence.holds("Promise 24", "NONE: there is none, or nobody is there.", Promises21To27SentencesTest::meetingNone);
        Sentence.holds("Promise 25", "ABOVE, as a set.", Promises21To27SentencesTest::above);
        Sentence.holds("Promise 26", "FEWEST MOVES.", Promises21To27SentencesTest::fewest);
        Sentence.holds("Promise 26", "BAD; NONE: not by 2.", Promises21To27SentencesTest::fewestRefused);
        Sentence.holds("Promise 27", "what 0 the LADDER, 1 the LEDGE at which it would lean, 2 how many are REACHED then.",
            Promises21To27SentencesTest::help);
        Sentence.holds("Promise 27", "BAD; NONE: there is none.", Promises21To27SentencesTest::helpRefused);
        Sentence.end("Promises21To27SentencesTest");
    }

    private static void rich(String what, ToIntFunction<LadderTown> call, int due) {
        Twins.refused(what, Towns::rich, call, due);
    }

    private static void both(String what, Supplier<LadderTown> made, ToIntFunction<LadderTown> call, int due) {
        Twins.refused(what, made, call, due);
    }

    private static void leastMinutes() {
        // In the rich town: 0 to 1 by ladder 0 (3), 1 to 2 by ladder 1 (8), 0 to 2 by ladder 3 (11), 2 to 3 by 2 (5).
        rich("one", x -> x.way(0, 1, 0), 3);
        rich("either takes as long", x -> x.way(0, 2, 0), 11);
        rich("down and up", x -> x.way(3, 0, 0), 16);
        rich("itself", x -> x.way(4, 4, 0), 0);
        both("with as many as there may be", Towns::full, x -> x.way(3, 8, 0), 15);
        LadderTown x = Due.town(0, 50, 99);
        x.ladder(1, 99, 0, 2);
        Due.is("a rope alone", x.way(0, 2, 0), 40);
        x.ladder(0, 99, 0, 1);
        x.ladder(0, 99, 1, 2);
        Due.is("two ladders are faster", x.way(0, 2, 0), 11 + 10);
        Due.is("and are two", x.way(0, 2, 1), 2);
    }

    private static void fewestLadders() {
        rich("one of two ways that take as long", x -> x.way(0, 2, 1), 1);
        rich("back", x -> x.way(2, 0, 1), 1);
        rich("with one behind it", x -> x.way(0, 3, 1), 2);
        rich("itself", x -> x.way(2, 2, 1), 0);
    }

    private static void tollOfIt() {
        rich("m+n", x -> x.way(0, 2, 2), 12);
        rich("m+n of two", x -> x.way(3, 0, 2), 18);
        rich("itself", x -> x.way(3, 3, 2), 0);
    }

    private static void wayRefused() {
        for (int l : NO_LEDGE) {
            rich("from " + l, x -> x.way(l, 0, 0), Due.BAD);
            rich("to " + l, x -> x.way(0, l, 0), Due.BAD);
            rich("both " + l, x -> x.way(l, l, 0), Due.BAD);
        }
        for (int w : NO_WHAT) {
            rich("what " + w, x -> x.way(0, 1, w), Due.BAD);
            rich("bad what ahead of none: " + w, x -> x.way(0, 4, w), Due.BAD);
        }
        for (int w = 0; w < 3; w++) {
            int what = w;
            rich("no way, " + w, x -> x.way(0, 4, what), Due.NONE);
            rich("no way back, " + w, x -> x.way(4, 0, what), Due.NONE);
        }
        both("no ledges", LadderTown::new, x -> x.way(0, 0, 0), Due.BAD);
    }

    private static void reached() {
        for (int l = 0; l < 5; l++) {
            int from = l;
            rich("from " + l, x -> x.reached(from), l == 4 ? 16 : 15);
        }
        both("the last of ten alone", Towns::full, x -> x.reached(9), 512);
        both("with as many as there may be", Towns::full, x -> x.reached(5), 0x1f8);
    }

    private static void reachedRefused() {
        for (int l : NO_LEDGE) rich("from " + l, x -> x.reached(l), Due.BAD);
        both("no ledges", LadderTown::new, x -> x.reached(0), Due.BAD);
    }

    private static void needed() {
        rich("in a ring", x -> x.needed(0, 2), 0);
        rich("out of it", x -> x.needed(0, 3), 4);
        rich("itself", x -> x.needed(4, 4), 0);
        both("with as many as there may be", Towns::full, x -> x.needed(8, 3), 0xf8);
    }

    private static void neededRefused() {
        for (int l : NO_LEDGE) {
            rich("from " + l, x -> x.needed(l, 0), Due.BAD);
            rich("to " + l, x -> x.needed(0, l), Due.BAD);
        }
        rich("no way", x -> x.needed(0, 4), Due.NONE);
        rich("no way back", x -> x.needed(4, 0), Due.NONE);
    }

    private static void meeting() {
        // In the rich town people are on 0, 1, 1, 3: 0 to 1 takes 3, 1 to 3 takes 13.
        rich("where two are", LadderTown::meeting, 1);
        both("of two the least", () -> people(2, 0), LadderTown::meeting, 0);
        both("one alone, where it is", () -> people(3), LadderTown::meeting, 3);
        both("the last ledge", () -> people(3, 3, 0), LadderTown::meeting, 3);
        both("the last of ten, all six are there", Promises21To27SentencesTest::allOnTheLast, LadderTown::meeting, 9);
    }

    private static LadderTown allOnTheLast() {
        LadderTown x = Towns.full();
        for (int i = 0; i < 6; i++) x.set(i, 0, 9);
        return x;
    }

    private static LadderTown people(int... ledges) {
        LadderTown x = Due.town(0, 10, 20, 30);
        for (int i = 0; i < 3; i++) x.ladder(0, 10, i, i + 1);
        for (int ledge : ledges) x.person(ledge, 0);
        return x;
    }

    private static void meetingNone() {
        both("no ledges", LadderTown::new, LadderTown::meeting, Due.NONE);
        both("nobody", () -> Due.town(0, 10), LadderTown::meeting, Due.NONE);
        both("no way for all", Promises21To27SentencesTest::apart, LadderTown::meeting, Due.NONE);
    }

    private static LadderTown apart() {
        LadderTown x = Due.town(0, 10, 20);
        x.ladder(0, 10, 0, 1);
        x.person(0, 0);
        x.person(1, 0);
        x.person(2, 0);
        return x;
    }

    private static void above() {
        both("the last", Promises21To27SentencesTest::apart, LadderTown::above, 4);
        both("no ledges", LadderTown::new, LadderTown::above, 0);
        both("nobody", () -> Due.town(0, 10), LadderTown::above, 0);
        rich("none is left", LadderTown::above, 0);
        both("all six", Promises21To27SentencesTest::allAbove, LadderTown::above, 63);
        both("the only one", Promises21To27SentencesTest::oneAbove, LadderTown::above, 1);
    }

    private static LadderTown allAbove() {
        LadderTown x = Due.town(0, 10);
        for (int i = 0; i < 6; i++) x.person(1, 0);
        return x;
    }

    private static LadderTown oneAbove() {
        LadderTown x = Due.town(0, 10);
        x.person(1, 0);
        return x;
    }

    private static void fewest() {
        rich("there", x -> x.fewest(0, 0), 0);
        rich("by ways", x -> x.fewest(0, 3), 0);
        both("by one", Promises21To27SentencesTest::ropes, x -> x.fewest(0, 1), 1);
        both("by two", Promises21To27SentencesTest::ropes, x -> x.fewest(0, 2), 2);
        both("by ways, with as many as there may be", Towns::full, x -> x.fewest(5, 8), 0);
        both("by the last ladder", Promises21To27SentencesTest::lastLadderFirst, x -> x.fewest(5, 9), 1);
    }

    private static LadderTown ropes() {
        LadderTown x = Due.town(0, 10, 20, 30);
        for (int i = 0; i < 3; i++) x.ladder(1, 7, i, (i + 2) % 4);
        x.person(0, 0);
        return x;
    }

    /** Ladder 7 could lean at ledge 9. */
    private static LadderTown lastLadderFirst() {
        LadderTown x = Towns.full();
        x.turns(7, 1);
        x.cut(7, 99);
        return x;
    }

    private static void fewestRefused() {
        for (int p : NO_PERSON) rich("person " + p, x -> x.fewest(p, 0), Due.BAD);
        for (int l : NO_LEDGE) rich("ledge " + l, x -> x.fewest(0, l), Due.BAD);
        rich("not by 2", x -> x.fewest(0, 4), Due.NONE);
        both("by 3", Promises21To27SentencesTest::ropes, x -> x.fewest(0, 3), Due.NONE);
        both("with as many as there may be", Towns::full, x -> x.fewest(5, 9), Due.NONE);
    }

    private static LadderTown helped() {
        LadderTown x = Due.town(0, 10, 20, 30);
        x.ladder(0, 20, 0, 1);
        x.ladder(0, 10, 2, 3);
        return x;
    }

    private static void help() {
        int[] due = {0, 2, 3};
        for (int w = 0; w < 3; w++) {
            int what = w;
            both("what " + w, Promises21To27SentencesTest::helped, x -> x.help(what), due[w]);
        }
        int[] last = {7, 9, 2};
        for (int w = 0; w < 3; w++) {
            int what = w;
            both("the last ladder, the last ledge, " + w, Promises21To27SentencesTest::helpedByTheLast, x -> x.help(what),
                last[w]);
        }
    }

    private static LadderTown helpedByTheLast() {
        LadderTown x = Due.town(0, 0, 0, 0, 0, 0, 0, 0, 0, 50);
        for (int i = 0; i < 7; i++) x.ladder(0, 99, i + 1, 9);
        x.ladder(0, 50, 0, 1);
        for (int i = 0; i < 7; i++) x.cut(i, 49);
        return x;
    }

    private static void helpRefused() {
        for (int w : NO_WHAT) {
            rich("what " + w, x -> x.help(w), Due.BAD);
            both("bad ahead of none: " + w, LadderTown::new, x -> x.help(w), Due.BAD);
        }
        for (int w = 0; w < 3; w++) {
            int what = w;
            both("no ledges, " + w, LadderTown::new, x -> x.help(what), Due.NONE);
            both("no ladders, " + w, () -> Due.town(0, 10), x -> x.help(what), Due.NONE);
            rich("none would be more than now, " + w, x -> x.help(what), Due.NONE);
        }
    }
}
