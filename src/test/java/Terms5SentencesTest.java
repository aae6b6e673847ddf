/** The sentences of part 5 of the terms: sheets, slots, findings, images, the nights told. */
public final class Terms5SentencesTest {
    private static final String PART = "Terms 5";

    public static void main(String[] args) {
        Sentence.holds(PART, "SHEETS 0 .. 3 are rows of shorts (sort 0) or floats (1; whole numbers)",
            Terms5SentencesTest::sheetsAndSorts);
        Sentence.holds(PART, "with 0 to 24 places", Terms5SentencesTest::upTo24Places);
        Sentence.holds(PART, "or MISSING (at first)", Terms5SentencesTest::missingAtFirst);
        Sentence.holds(PART, "A place of floats may be NO NUMBER.", Terms5SentencesTest::noNumber);
        Sentence.holds(PART, "SLOTS 0 .. 4 each hold nothing (at first)", Terms5SentencesTest::slotsHoldNothing);
        Sentence.holds(PART, "a LADDER (as it is then, for good)", Terms5SentencesTest::ladderForGood);
        Sentence.holds(PART, "a SHEET (a row of its own, as it was then)", Terms5SentencesTest::rowOfItsOwn);
        Sentence.holds(PART, "or a number", Terms5SentencesTest::anyNumber);
        findings();
        Sentence.holds(PART, "AN IMAGE keeps all but SHEETS, SLOTS, numbers that wait, THE TAPE",
            Terms5SentencesTest::imageKeeps);
        Sentence.holds(PART, "all can become as it is (again and again)", Terms5SentencesTest::againAndAgain);
        Sentence.holds(PART, "THE NIGHTS TOLD: of n NIGHTS, one behind the other, by THE IMAGE",
            Terms5SentencesTest::nightsByTheImage);
        Sentence.holds(PART, "how many LADDERS STAND; how many LEDGES are REACHED from LEDGE 0 behind it",
            Terms5SentencesTest::standAndReached);
        Sentence.holds(PART, "(0 without LEDGES)", Terms5SentencesTest::withoutLedges);
        Sentence.end("Terms5SentencesTest");
    }

    private static void findings() {
        Sentence.holds(PART, "FINDINGS: NOTHING: a SHEET is MISSING, a SLOT holds nothing",
            Terms5SentencesTest::findingNothing);
        Sentence.holds(PART, "INDEX: there is no such place", Terms5SentencesTest::findingIndex);
        Sentence.holds(PART, "SIZE: a number of places is below 0", Terms5SentencesTest::findingSize);
        Sentence.holds(PART, "KIND: it is none (of a KIND, a number, or another thing)", Terms5SentencesTest::findingKind);
    }

    private static int place(LadderTown x, int sheet, int place) {
        x.lay(4, 2, sheet);
        return x.item(4, place);
    }

    private static void sheetsAndSorts() {
        LadderTown x = new LadderTown();
        for (int sheet = 0; sheet < 4; sheet++) {
            for (int sort = 0; sort < 2; sort++) {
                Due.is("sheet " + sheet, x.sheet(sheet, sort, 2), 2);
                Due.is("mark", x.mark(sheet, 1, 40000), 1);
                Due.is("sort " + sort, place(x, sheet, 1), sort == 0 ? 40000 - 65536 : 40000);
            }
        }
        Due.is("sheet 4", x.sheet(4, 0, 2), Due.BAD);
        Due.is("sheet -1", x.sheet(-1, 0, 2), Due.BAD);
        Due.is("sort 2", x.sheet(0, 2, 2), Due.BAD);
        Due.is("sort -2", x.sheet(0, -2, 2), Due.BAD);
        Due.is("each is a row of its own", x.mark(0, 0, 5) + place(x, 1, 0), 1);
    }

    private static void upTo24Places() {
        for (int sort = 0; sort < 2; sort++) {
            LadderTown x = new LadderTown();
            Due.is("none", x.sheet(0, sort, 0), 0);
            Due.is("no place 0", x.mark(0, 0, 0), Due.INDEX);
            Due.is("one", x.sheet(0, sort, 1), 1);
            Due.is("place 0", x.mark(0, 0, 0), 1);
            Due.is("no place 1", x.mark(0, 1, 0), Due.INDEX);
            Due.is("24", x.sheet(0, sort, 24), 24);
            Due.is("place 23", x.mark(0, 23, 6), 1);
            Due.is("told", place(x, 0, 23), 6);
            Due.is("no place 24", x.mark(0, 24, 0), Due.INDEX);
            Due.is("25", x.sheet(0, sort, 25), Due.BAD);
            Due.is("-1", x.sheet(0, sort, -1), Due.SIZE);
            Due.is("it stayed", place(x, 0, 23), 6);
        }
    }

    private static void missingAtFirst() {
        LadderTown x = Due.town(0);
        for (int sheet = 0; sheet < 4; sheet++) {
            Due.is("mark", x.mark(sheet, 0, 0), Due.NOTHING);
            Due.is("pour", x.pour(sheet), Due.NOTHING);
            Due.is("nearest", x.nearest(sheet, 0), Due.NOTHING);
            Due.is("copy", x.copy(sheet, 0, sheet, 0, 0), Due.NOTHING);
            Due.is("lay", x.lay(0, 2, sheet), Due.NOTHING);
        }
        x.sheet(2, 1, 0);
        Due.is("one without places is not missing", x.pour(2), 0);
        x.sheet(2, -1, 0);
        Due.is("it is missing again", x.pour(2), Due.NOTHING);
    }

    private static void noNumber() {
        LadderTown x = Due.town(7, 8);
        x.sheet(0, 1, 2);
        Due.is("no number at first: 0", place(x, 0, 0), 0);
        Due.is("it becomes so", x.mark(0, 0, Due.NONE), 1);
        Due.is("no number", place(x, 0, 0), Due.KIND);
        Due.is("the other one is one", place(x, 0, 1), 0);
        Due.is("a height stays by it, another one does not", x.pour(0), 1);
        Due.is("it stays", x.ledgeTold(0, 0), 7);
        Due.is("it is copied", x.copy(0, 0, 0, 1, 1), 1);
        Due.is("no number", place(x, 0, 1), Due.KIND);
        Due.is("a number again", x.mark(0, 0, 3), 1);
        Due.is("a number", place(x, 0, 0), 3);
        x.sheet(0, 1, 2);
        Due.is("a new row has none", place(x, 0, 1), 0);
        x.sheet(1, 0, 1);
        Due.is("not among shorts", x.mark(1, 0, Due.NONE), Due.KIND);
    }

    private static void slotsHoldNothing() {
        LadderTown x = new LadderTown();
        for (int slot = 0; slot < 5; slot++) {
            Due.is("ask", x.ask(slot, 0), Due.NOTHING);
            Due.is("item", x.item(slot, 0), Due.NOTHING);
            Due.is("rest", x.rest(slot, 1), Due.NOTHING);
            Due.is("lay", x.lay(slot, 3, slot), 0);
        }
        for (int slot = 0; slot < 5; slot++) Due.is("each by itself", x.rest(slot, 9), slot);
        Due.is("slot 5", x.lay(5, 3, 0), Due.BAD);
        Due.is("slot -1", x.lay(-1, 3, 0), Due.BAD);
        Due.is("it holds nothing again", x.lay(2, 0, 0), 3);
        Due.is("rest", x.rest(2, 9), Due.NOTHING);
    }

    private static void ladderForGood() {
        LadderTown x = Due.town(0, 10, 20);
        x.keep();
        x.ladder(3, 30, 0, 1);
        x.lay(0, 1, 0);
        x.cut(0, 50);
        x.turns(0, 5);
        Due.is("worth as it was", x.ask(0, 0), 52);
        Due.is("kind as it was", x.ask(0, 3), 52);
        Due.is("not the kind that it is now", x.ask(0, 5), Due.KIND);
        x.back();
        Due.is("there is no such ladder any more", x.told(0, 0), Due.BAD);
        Due.is("worth as it was", x.ask(0, 1), 52);
        x.ladder(0, 7, 0, 1);
        Due.is("another one bears its number", x.ask(0, 3), 52);
        x.lay(0, 1, 0);
        Due.is("laid again", x.ask(0, 0), 7);
    }

    private static void rowOfItsOwn() {
        LadderTown x = new LadderTown();
        x.sheet(1, 1, 3);
        x.mark(1, 0, 11);
        x.mark(1, 1, Due.NONE);
        x.lay(0, 2, 1);
        x.mark(1, 0, 12);
        x.mark(1, 1, 13);
        x.lay(3, 2, 1);
        Due.is("as it was", x.item(0, 0), 11);
        Due.is("no number as it was", x.item(0, 1), Due.KIND);
        Due.is("as it was later", x.item(3, 0), 12);
        x.sheet(1, 0, 1);
        Due.is("its places as they were", x.item(0, 2), 0);
        x.sheet(1, -1, 0);
        Due.is("as it was", x.item(0, 0), 11);
        Due.is("its end", x.item(0, 3), Due.INDEX);
        Due.is("as it was later", x.item(3, 1), 13);
    }

    private static void anyNumber() {
        int[] numbers = {0, 1, -1, Due.MAX, Due.MIN, Due.NONE, Due.BAD};
        LadderTown x = new LadderTown();
        for (int v : numbers) {
            Due.is("taken", x.lay(1, 3, v) < 0 ? 1 : 0, 0);
            Due.is("the rest of " + v + " by 1000", x.rest(1, 1000), v % 1000);
            Due.is("the rest of " + v + " by MAX", x.rest(1, Due.MAX), v % Due.MAX);
        }
    }

    private static void findingNothing() {
        LadderTown x = Due.town(0, 10);
        x.sheet(0, 0, 1);
        Due.is("mark", x.mark(1, 9, Due.NONE), Due.NOTHING);
        Due.is("pour", x.pour(1), Due.NOTHING);
        Due.is("nearest", x.nearest(1, 1), Due.NOTHING);
        Due.is("copy from it", x.copy(1, 9, 0, 9, 9), Due.NOTHING);
        Due.is("copy to it", x.copy(0, 9, 1, 9, 9), Due.NOTHING);
        Due.is("lay", x.lay(0, 2, 1), Due.NOTHING);
        Due.is("ask", x.ask(0, 5), Due.NOTHING);
        Due.is("item", x.item(0, -1), Due.NOTHING);
        Due.is("rest", x.rest(0, 0), Due.NOTHING);
    }

    private static void findingIndex() {
        LadderTown x = new LadderTown();
        x.sheet(0, 0, 3);
        x.lay(0, 2, 0);
        int[] places = {-1, 3, 24, Due.MAX, Due.MIN};
        for (int place : places) {
            Due.is("mark " + place, x.mark(0, place, 1), Due.INDEX);
            Due.is("item " + place, x.item(0, place), Due.INDEX);
            Due.is("copy from " + place, x.copy(0, place, 0, 0, 1), Due.INDEX);
            Due.is("copy to " + place, x.copy(0, 0, 0, place, 1), Due.INDEX);
        }
        Due.is("the last one", x.mark(0, 2, 1), 1);
        Due.is("the last one", x.item(0, 2), 0);
        Due.is("copy the last one", x.copy(0, 2, 0, 0, 1), 1);
    }

    private static void findingSize() {
        LadderTown x = new LadderTown();
        int[] sizes = {-1, -24, -25, Due.MIN, Due.NONE};
        for (int n : sizes) {
            Due.is("shorts " + n, x.sheet(0, 0, n), Due.SIZE);
            Due.is("floats " + n, x.sheet(3, 1, n), Due.SIZE);
            Due.is("missing " + n, x.sheet(1, -1, n), 0);
        }
        Due.is("still missing", x.pour(0), Due.NOTHING);
    }

    private static void findingKind() {
        LadderTown x = Due.town(0, 10);
        x.ladder(1, 20, 0, 1);
        x.sheet(0, 0, 1);
        x.sheet(1, 1, 1);
        x.mark(1, 0, Due.NONE);
        x.lay(0, 1, 0);
        x.lay(1, 2, 1);
        x.lay(2, 3, 5);
        Due.is("not of a kind", x.as(0, 3), Due.KIND);
        Due.is("not of a kind, in a slot", x.ask(0, 2), Due.KIND);
        Due.is("no ladder: a sheet", x.ask(1, 0), Due.KIND);
        Due.is("no ladder: a number", x.ask(2, 0), Due.KIND);
        Due.is("no sheet: a ladder", x.item(0, 0), Due.KIND);
        Due.is("no sheet: a number", x.item(2, 0), Due.KIND);
        Due.is("no number: a ladder", x.rest(0, 1), Due.KIND);
        Due.is("no number: a sheet", x.rest(1, 1), Due.KIND);
        Due.is("no number in a place", x.item(1, 0), Due.KIND);
        Due.is("no number among shorts", x.mark(0, 0, Due.NONE), Due.KIND);
        Due.is("not of one sort", x.copy(0, 0, 1, 0, 1), Due.KIND);
    }

    private static void imageKeeps() {
        LadderTown x = Towns.rich();
        Due.is("kept", x.keep(), 5);
        LadderTown other = Towns.rich();
        other.keep();
        x.change(0, 0, 3);
        x.change(0, 1, 3);
        x.ledge(9, 9);
        x.seed(4);
        x.ladder(0, 9, 0, 1);
        x.turns(1, 4);
        x.cut(1, 4);
        x.person(0, 0);
        x.set(0, 0, 1);
        x.set(0, 1, 1);
        x.thieves(3);
        x.nights(2);
        x.trim(0);
        Due.text(x, "lean 5");
        Due.tape(x, "lean h*3+p");
        Due.is("back", x.back(), 5);
        Twins.alike("all is as it was", x, other);
        LadderTown y = new LadderTown();
        y.keep();
        y.sheet(0, 0, 1);
        y.mark(0, 0, 8);
        y.lay(0, 3, 7);
        y.tell(6);
        y.feed(5, 5, 5);
        y.back();
        Due.is("sheets are not kept", place(y, 0, 0), 8);
        Due.is("nor slots", y.rest(0, 100), 7);
        Due.is("nor numbers that wait", y.count(7), 1);
        Due.is("nor the tape", y.count(8), 12);
    }

    private static void againAndAgain() {
        LadderTown x = Due.town(0, 10, 20, 30);
        x.ladder(0, 30, 0, 1);
        x.thieves(100);
        x.keep();
        for (int i = 0; i < 4; i++) {
            Due.is("nights", x.nights(5), 5);
            Due.is("gone on", x.told(0, 3), 3);
            x.ledge(5, 5);
            Due.is("back", x.back(), 1);
            Due.is("top", x.told(0, 3), 1);
            Due.is("ledges", x.count(0), 4);
            Due.is("z", x.count(9), 1);
            Due.is("day", x.count(3), 0);
        }
        x.cut(0, 29);
        x.keep();
        x.cut(0, 28);
        x.back();
        Due.is("the image that was kept last", x.told(0, 1), 29);
        x.back();
        Due.is("again", x.told(0, 1), 29);
    }

    private static int checked(LadderTown x, int n, int... row) {
        for (int v : row) x.tell(v);
        return x.check(n);
    }

    private static void nightsByTheImage() {
        // Ladder 0 leans at 2, at 3, at 1 by turns; ladder 1 stands from 2 to 3.
        LadderTown x = Due.town(0, 10, 20, 30);
        x.ladder(0, 30, 0, 1);
        x.ladder(0, 10, 2, 3);
        x.thieves(100);
        x.keep();
        Due.is("four nights", checked(x, 4, 2, 3, 2, 3, 2, 2, 2, 3), 0);
        x.cut(0, 1);
        x.cut(1, 1);
        x.thieves(0);
        Due.is("by the image, whatever the town is", checked(x, 4, 2, 3, 2, 3, 2, 2, 2, 3), 0);
        Due.is("again from its first night", checked(x, 1, 2, 3), 0);
        Due.is("the town goes on from where it was", x.count(3), 0);
        x.back();
        Due.is("the image is as it was", x.told(0, 3), 1);
        Due.is("its z", x.count(9), 1);
        Due.text(x, "lean 30-h+2*p");
        x.keep();
        Due.text(x, "lean 31");
        Due.is("by the image's texts", checked(x, 2, 1, 2, 1, 2), 0);
    }

    private static void standAndReached() {
        LadderTown x = Due.town(0, 10, 20, 99);
        x.ladder(0, 20, 0, 3);
        x.ladder(0, 10, 1, 0);
        x.thieves(100);
        x.keep();
        Due.is("none stands ahead of the night", x.count(4), 0);
        Due.is("both stand behind it, three are reached", checked(x, 1, 2, 3), 0);
        Due.is("as it was ahead of it", checked(x, 1, 0, 1), 1);
        x.thieves(0);
        x.keep();
        Due.is("without thieves", checked(x, 2, 0, 1, 0, 1), 0);
    }

    private static void withoutLedges() {
        LadderTown x = new LadderTown();
        x.keep();
        Due.is("0 and 0", checked(x, 2, 0, 0, 0, 0), 0);
        Due.is("not 1", checked(x, 1, 0, 1), 2);
        x.ledge(0, 0);
        Due.is("the image has none", checked(x, 1, 0, 0), 0);
        x.keep();
        Due.is("one ledge is reached", checked(x, 1, 0, 1), 0);
    }
}
