import java.util.function.Supplier;

/** The sentences of promises 42 to 46: edges and refused calls of rows, checks and images. */
public final class Promises42To46SentencesTest {
    public static void main(String[] args) {
        Sentence.holds("Promise 42", "One more number waits: how many.", Promises42To46SentencesTest::tell);
        Sentence.holds("Promise 42", "FULL: 60 wait.", Promises42To46SentencesTest::tellRefused);
        Sentence.holds("Promise 43", "(none do then, whatever is answered)", Promises42To46SentencesTest::noneWaitThen);
        Sentence.holds("Promise 43", "are THE NIGHTS TOLD of n (1 .. 30), two by two: 0",
            Promises42To46SentencesTest::checkTwoByTwo);
        Sentence.holds("Promise 43", "else 1 and how many stand right ahead of the first that is not",
            Promises42To46SentencesTest::checkFirstThatIsNot);
        Sentence.holds("Promise 43", "(or is missing", Promises42To46SentencesTest::checkMissing);
        Sentence.holds("Promise 43", "or one too many)", Promises42To46SentencesTest::checkTooMany);
        Sentence.holds("Promise 43", "BAD; NO: there is no IMAGE.", Promises42To46SentencesTest::checkRefused);
        Sentence.holds("Promise 44", "AN IMAGE is kept: how many LADDERS.", Promises42To46SentencesTest::keep);
        Sentence.holds("Promise 45", "All is as THE IMAGE: how many LADDERS.", Promises42To46SentencesTest::back);
        Sentence.holds("Promise 45", "NO: there is none.", Promises42To46SentencesTest::backRefused);
        Sentence.holds("Promise 46", "0 LEDGES, 1 LADDERS, 2 PEOPLE, 3 THE DAY, 4 LADDERS that STAND, 5 that were MOVED, "
            + "6 TEXTS, 7 numbers that wait, 8 bytes of THE TAPE, 9 z.", Promises42To46SentencesTest::count);
        Sentence.holds("Promise 46", "BAD.", Promises42To46SentencesTest::countRefused);
        Sentence.end("Promises42To46SentencesTest");
    }

    private static void tell() {
        int[] values = {0, -1, Due.MAX, Due.MIN, Due.BAD, Due.NONE};
        LadderTown x = new LadderTown();
        for (int i = 0; i < 60; i++) Due.is("number " + (i + 1), x.tell(values[i % values.length]), i + 1);
        Due.is("how many", x.count(7), 60);
    }

    private static void tellRefused() {
        Twins.refused("60 wait", Towns::full, x -> x.tell(0), Due.FULL);
        Twins.refused("60 wait, any number", Towns::full, x -> x.tell(Due.MIN), Due.FULL);
        LadderTown x = Towns.full();
        Due.is("checked", x.check(30), 0);
        Due.is("there is room again", x.tell(5), 1);
    }

    private static void noneWaitThen() {
        int[] nights = {1, 2, 30, 0, 31, Due.MAX, Due.MIN};
        for (int n : nights) {
            LadderTown x = Towns.rich();
            Due.is("two wait", x.count(7), 2);
            x.check(n);
            Due.is("none wait behind a check of " + n, x.count(7), 0);
            Due.is("the first one again", x.tell(3), 1);
            Twins.alike("all else is as it was", x, waiting(3));
        }
    }

    private static LadderTown waiting(int... row) {
        LadderTown x = Towns.richWithoutWaiting();
        for (int v : row) x.tell(v);
        return x;
    }

    /** Four ledges, a ladder that thieves lean at 2, at 3, at 1 by turns, and one that stands from 2 to 3. */
    private static LadderTown byTurns() {
        LadderTown x = Due.town(0, 10, 20, 30);
        x.ladder(0, 30, 0, 1);
        x.ladder(0, 10, 2, 3);
        x.thieves(100);
        x.keep();
        return x;
    }

    private static int due(int i) {
        return i % 2 == 0 ? 2 : i / 2 % 3 == 2 ? 2 : 3;
    }

    private static int checked(int n, int many, int wrongAt) {
        LadderTown x = byTurns();
        for (int i = 0; i < many; i++) x.tell(i == wrongAt ? due(i) + 1 : due(i));
        return x.check(n);
    }

    private static void checkTwoByTwo() {
        for (int n = 1; n <= 30; n++) Due.is("nights " + n, checked(n, 2 * n, -1), 0);
    }

    private static void checkFirstThatIsNot() {
        for (int n = 1; n <= 30; n += 29) {
            for (int at = 0; at < 2 * n; at++) Due.is(n + " nights, wrong at " + at, checked(n, 2 * n, at), at + 1);
        }
        LadderTown x = byTurns();
        x.tell(2);
        x.tell(9);
        x.tell(9);
        x.tell(9);
        Due.is("the first of several", x.check(2), 2);
        Due.is("wrong ahead of too many", checked(1, 3, 1), 2);
        Due.is("wrong ahead of missing", checked(3, 3, 1), 2);
    }

    private static void checkMissing() {
        for (int many = 0; many < 60; many++) Due.is(many + " of 60", checked(30, many, -1), many + 1);
        Due.is("all of one night", checked(1, 0, -1), 1);
    }

    private static void checkTooMany() {
        for (int n = 1; n < 30; n++) {
            Due.is(n + " nights and one more", checked(n, 2 * n + 1, -1), 2 * n + 1);
            Due.is(n + " nights and all the others", checked(n, 60, -1), 2 * n + 1);
        }
    }

    /** Refused with this answer; then no numbers wait, and all else is as it was. */
    private static void refusedCheck(String what, Supplier<LadderTown> made, Supplier<LadderTown> other, int n, int due) {
        LadderTown x = made.get();
        Due.is(what, x.check(n), due);
        Twins.alike(what, x, other.get());
    }

    private static LadderTown withoutImage(int... row) {
        LadderTown x = Due.town(0, 10);
        x.ladder(0, 10, 0, 1);
        for (int v : row) x.tell(v);
        return x;
    }

    private static void checkRefused() {
        int[] nights = {0, -1, 31, Due.MAX, Due.MIN};
        for (int n : nights) {
            refusedCheck("nights " + n, Towns::rich, Towns::richWithoutWaiting, n, Due.BAD);
            refusedCheck("bad ahead of no: " + n, () -> withoutImage(1, 2), () -> withoutImage(), n, Due.BAD);
        }
        refusedCheck("no image", () -> withoutImage(1, 2), () -> withoutImage(), 1, Due.NO);
        refusedCheck("no image, nothing waits", () -> withoutImage(), () -> withoutImage(), 30, Due.NO);
        refusedCheck("a check that is right changes nothing else", Towns::rich, Towns::richWithoutWaiting, 1, 0);
        refusedCheck("a check that is not right changes nothing else", Towns::rich, Towns::richWithoutWaiting, 30, 3);
    }

    private static void keep() {
        Due.is("none", new LadderTown().keep(), 0);
        Due.is("five", Towns.rich().keep(), 5);
        Due.is("eight", Towns.full().keep(), 8);
        LadderTown x = Towns.rich();
        x.keep();
        x.back();
        LadderTown other = Towns.rich();
        other.keep();
        Twins.alike("kept and back: all as it was", x, other);
    }

    private static void back() {
        Due.is("four", Towns.rich().back(), 4);
        LadderTown x = Towns.full();
        Due.is("none: the image is empty", x.back(), 0);
        int[] due = {0, 0, 0, 0, 0, 0, 0, 60, 96, 1};
        for (int what = 0; what < 10; what++) Due.is("count " + what, x.count(what), due[what]);
        Due.is("thieves", x.thieves(0), 20);
        Due.is("no text counts", x.why(0), Due.NONE);
        LadderTown y = Towns.rich();
        y.back();
        LadderTown z = Towns.rich();
        z.back();
        z.nights(3);
        z.back();
        Twins.alike("again", z, y);
    }

    private static void backRefused() {
        Twins.refused("no image", LadderTown::new, LadderTown::back, Due.NO);
        Twins.refused("no image of a town", () -> withoutImage(1, 2), LadderTown::back, Due.NO);
    }

    private static void count() {
        int[] rich = {5, 5, 4, 3, 4, 1, 4, 2, 10, -12345};
        for (int w = 0; w < 10; w++) {
            int what = w;
            Twins.refused("rich, " + w, Towns::rich, x -> x.count(what), rich[w]);
        }
        // By its last text two ledges need 14, so that ladders of 14 to 18 stand.
        int[] full = {10, 8, 6, 0, 5, 0, 14, 60, 96, 1};
        for (int w = 0; w < 10; w++) {
            int what = w;
            Twins.refused("full, " + w, Towns::full, x -> x.count(what), full[w]);
        }
        LadderTown x = Due.town(0, 10, 20);
        for (int i = 0; i < 8; i++) x.ladder(1, 20, 0, 1);
        x.person(0, 0);
        for (int i = 0; i < 8; i++) {
            Due.is("moved so far", x.count(5), i);
            x.move(0, i, 2);
        }
        Due.is("all eight were moved", x.count(5), 8);
        Due.is("all eight stand", x.count(4), 8);
    }

    private static void countRefused() {
        int[] whats = {-1, 10, Due.MAX, Due.MIN};
        for (int w : whats) Twins.refused("what " + w, Towns::rich, x -> x.count(w), Due.BAD);
    }
}
