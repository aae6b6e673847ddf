import java.util.function.ToIntFunction;

/** The sentences of promises 33 to 41: edges and refused calls of sheets and slots. */
public final class Promises33To41SentencesTest {
    private static final int[] NO_SHEET = {-1, 4, Due.MAX, Due.MIN};
    private static final int[] NO_SLOT = {-1, 5, Due.MAX, Due.MIN};
    private static final int MISSING = 3;

    public static void main(String[] args) {
        sheets();
        ledgesBySheets();
        slots();
        Sentence.end("Promises33To41SentencesTest");
    }

    private static void sheets() {
        Sentence.holds("Promise 33", "A SHEET becomes a row of n places of a sort, all 0", Promises33To41SentencesTest::sheet);
        Sentence.holds("Promise 33", "(sort -1: MISSING, n any): n (0).", Promises33To41SentencesTest::sheetMissing);
        Sentence.holds("Promise 33", "BAD: sheet, sort, n above 24; SIZE.", Promises33To41SentencesTest::sheetRefused);
        Sentence.holds("Promise 34", "A place of a SHEET becomes v", Promises33To41SentencesTest::mark);
        Sentence.holds("Promise 34", "(of shorts its lowest 16 bits", Promises33To41SentencesTest::markShorts);
        Sentence.holds("Promise 34", "of floats v, -99999 .. 99999; NONE: NO NUMBER): 1.",
            Promises33To41SentencesTest::markFloats);
        Sentence.holds("Promise 34", "BAD: sheet; NOTHING; INDEX; KIND: NONE in a row of shorts; BAD: v of floats.",
            Promises33To41SentencesTest::markRefused);
        Sentence.holds("Promise 37", "So many places of a SHEET come to another one (or the same), as they were: many.",
            Promises33To41SentencesTest::copy);
        Sentence.holds("Promise 37", "(From a SHEET, its place, to a SHEET, its place.)",
            Promises33To41SentencesTest::copyFromTo);
        Sentence.holds("Promise 37", "BAD; NOTHING; KIND: they are not of one sort; INDEX.",
            Promises33To41SentencesTest::copyRefused);
    }

    private static void ledgesBySheets() {
        Sentence.holds("Promise 35", "HEIGHTS of LEDGES, by numbers, become the places of a SHEET from 0 on (each held within "
            + "0 .. 99", Promises33To41SentencesTest::pourHeld);
        Sentence.holds("Promise 35", "NO NUMBER, and beyond the SHEET: they stay): how many are otherwise then.",
            Promises33To41SentencesTest::pourStays);
        Sentence.holds("Promise 35", "BAD; NOTHING.", Promises33To41SentencesTest::pourRefused);
        Sentence.holds("Promise 36", "NEAREST to a SHEET: what 0 the LEDGE, 1 the differences, together.",
            Promises33To41SentencesTest::nearest);
        Sentence.holds("Promise 36", "BAD; NOTHING; NONE: there are no LEDGES.", Promises33To41SentencesTest::nearestRefused);
    }

    private static void slots() {
        Sentence.holds("Promise 38", "A SLOT holds: thing 0 nothing, 1 LADDER k, 2 SHEET k, 3 the number k: what it held "
            + "(0 .. 3).", Promises33To41SentencesTest::lay);
        Sentence.holds("Promise 38", "BAD: slot, thing, k; NOTHING: that SHEET is MISSING.",
            Promises33To41SentencesTest::layRefused);
        Sentence.holds("Promise 39", "WORTH of the LADDER in a SLOT, taken for one of a KIND (0 .. 5).",
            Promises33To41SentencesTest::ask);
        Sentence.holds("Promise 39", "BAD; NOTHING; KIND: it is no LADDER, or not of that KIND, nor of one under it.",
            Promises33To41SentencesTest::askRefused);
        Sentence.holds("Promise 40", "A place of the SHEET in a SLOT.", Promises33To41SentencesTest::item);
        Sentence.holds("Promise 40", "BAD: slot; NOTHING; KIND: it is no SHEET; INDEX; KIND: NO NUMBER.",
            Promises33To41SentencesTest::itemRefused);
        Sentence.holds("Promise 41", "The rest of the number in a SLOT by n.", Promises33To41SentencesTest::rest);
        Sentence.holds("Promise 41", "BAD: slot; NOTHING; KIND: it is no number; NO: n is 0.",
            Promises33To41SentencesTest::restRefused);
    }

    /** In the rich town: sheet 0 shorts 5 -7 300, 1 floats 12 NONE 150 -3, 2 floats without places, 3 missing. */
    private static void refused(String what, ToIntFunction<LadderTown> call, int due) {
        Twins.refused(what, Towns::rich, call, due);
    }

    private static int place(LadderTown x, int sheet, int place) {
        x.lay(3, 2, sheet);
        return x.item(3, place);
    }

    private static void row(String what, LadderTown x, int sheet, int... due) {
        for (int i = 0; i < due.length; i++) Due.is(what + ", place " + i, place(x, sheet, i), due[i]);
        Due.is(what + ", its end", place(x, sheet, due.length), Due.INDEX);
    }

    private static void sheet() {
        LadderTown x = Towns.rich();
        Due.is("shorts become floats", x.sheet(0, 1, 2), 2);
        row("all 0", x, 0, 0, 0);
        Due.is("floats they are", x.mark(0, 0, 99999), 1);
        Due.is("as many again", x.sheet(1, 1, 4), 4);
        row("all 0, no number, too", x, 1, 0, 0, 0, 0);
        Due.is("24", x.sheet(1, 0, 24), 24);
        row("all 0", x, 1, new int[24]);
        Due.is("none", x.sheet(1, 0, 0), 0);
        row("no places", x, 1);
        Due.is("more again", x.sheet(1, 0, 4), 4);
        row("all 0", x, 1, 0, 0, 0, 0);
    }

    private static void sheetMissing() {
        int[] numbers = {0, 5, 24, 25, -1, Due.MAX, Due.MIN};
        for (int n : numbers) {
            LadderTown x = Towns.rich();
            Due.is("n " + n, x.sheet(0, -1, n), 0);
            Due.is("it is missing", x.mark(0, 0, 0), Due.NOTHING);
            refused("missing already, n " + n, y -> y.sheet(MISSING, -1, n), 0);
        }
    }

    private static void sheetRefused() {
        for (int s : NO_SHEET) {
            refused("sheet " + s, x -> x.sheet(s, 0, 1), Due.BAD);
            refused("sheet " + s + ", to be missing", x -> x.sheet(s, -1, 1), Due.BAD);
            refused("bad sheet ahead of size: " + s, x -> x.sheet(s, 0, -1), Due.BAD);
        }
        int[] sorts = {-2, 2, Due.MAX, Due.MIN};
        for (int s : sorts) {
            refused("sort " + s, x -> x.sheet(0, s, 1), Due.BAD);
            refused("bad sort ahead of size: " + s, x -> x.sheet(0, s, -1), Due.BAD);
        }
        int[] large = {25, 100, Due.MAX};
        int[] small = {-1, -25, Due.MIN};
        for (int sort = 0; sort < 2; sort++) {
            int of = sort;
            for (int n : large) refused("n " + n, x -> x.sheet(0, of, n), Due.BAD);
            for (int n : small) refused("n " + n, x -> x.sheet(1, of, n), Due.SIZE);
        }
    }

    private static void mark() {
        LadderTown x = new LadderTown();
        for (int sheet = 0; sheet < 4; sheet++) x.sheet(sheet, sheet % 2, 24);
        for (int sheet = 0; sheet < 4; sheet++) {
            for (int p = 0; p < 24; p += 23) Due.is("sheet " + sheet, x.mark(sheet, p, 100 * sheet + p), 1);
        }
        for (int sheet = 0; sheet < 4; sheet++) {
            Due.is("its first place", place(x, sheet, 0), 100 * sheet);
            Due.is("its last place", place(x, sheet, 23), 100 * sheet + 23);
            Due.is("another place", place(x, sheet, 22), 0);
        }
    }

    private static void markShorts() {
        int[][] shorts = {{0, 0}, {32767, 32767}, {32768, -32768}, {65535, -1}, {65536, 0}, {-1, -1}, {-32768, -32768},
            {-32769, 32767}, {Due.MAX, -1}, {Due.MIN, 0}, {100000, 100000 - 131072}, {Due.BAD, (short) Due.BAD}};
        LadderTown x = Towns.rich();
        for (int[] s : shorts) {
            Due.is("mark " + s[0], x.mark(0, 1, s[0]), 1);
            row("mark " + s[0], x, 0, 5, s[1], 300);
        }
    }

    private static void markFloats() {
        int[] floats = {99999, -99999, 0, 1, -1, 32768, 65536, 16777};
        LadderTown x = Towns.rich();
        for (int v : floats) {
            Due.is("mark " + v, x.mark(1, 1, v), 1);
            row("mark " + v, x, 1, 12, v, 150, -3);
        }
        Due.is("no number", x.mark(1, 3, Due.NONE), 1);
        row("no number", x, 1, 12, 16777, 150, Due.KIND);
    }

    private static void markRefused() {
        for (int s : NO_SHEET) refused("sheet " + s, x -> x.mark(s, -1, Due.NONE), Due.BAD);
        refused("missing", x -> x.mark(MISSING, 0, 0), Due.NOTHING);
        refused("nothing ahead of index and kind", x -> x.mark(MISSING, -1, Due.NONE), Due.NOTHING);
        int[] places = {-1, 4, 24, Due.MAX, Due.MIN};
        for (int p : places) {
            refused("shorts, place " + p, x -> x.mark(0, p, 1), Due.INDEX);
            refused("index ahead of kind, place " + p, x -> x.mark(0, p, Due.NONE), Due.INDEX);
            refused("index ahead of bad, place " + p, x -> x.mark(1, p, 100000), Due.INDEX);
        }
        refused("one behind the last short", x -> x.mark(0, 3, 1), Due.INDEX);
        refused("no places", x -> x.mark(2, 0, 1), Due.INDEX);
        refused("no number among shorts", x -> x.mark(0, 0, Due.NONE), Due.KIND);
        int[] large = {100000, -100000, Due.MAX, Due.MIN, Due.NONE + 1, Due.NONE - 1, Due.BAD};
        for (int v : large) refused("floats, " + v, x -> x.mark(1, 0, v), Due.BAD);
    }

    private static void copy() {
        LadderTown x = Towns.rich();
        x.sheet(2, 1, 3);
        Due.is("to another one", x.copy(1, 1, 2, 0, 3), 3);
        row("to another one", x, 2, Due.KIND, 150, -3);
        row("it stays", x, 1, 12, Due.KIND, 150, -3);
        Due.is("upwards in the same", x.copy(1, 0, 1, 1, 3), 3);
        row("as they were", x, 1, 12, 12, Due.KIND, 150);
        Due.is("downwards in the same", x.copy(1, 1, 1, 0, 3), 3);
        row("as they were", x, 1, 12, Due.KIND, 150, 150);
        Due.is("onto themselves", x.copy(0, 0, 0, 0, 3), 3);
        row("as they were", x, 0, 5, -7, 300);
        Due.is("a row of its own", x.mark(2, 1, 4), 1);
        row("the other one stays", x, 1, 12, Due.KIND, 150, 150);
        refused("none, behind the ends", y -> y.copy(0, 3, 0, 3, 0), 0);
        refused("none, to one without places", y -> y.copy(1, 4, 2, 0, 0), 0);
        refused("none, between", y -> y.copy(0, 1, 0, 2, 0), 0);
    }

    private static void copyFromTo() {
        LadderTown x = new LadderTown();
        x.sheet(1, 0, 4);
        x.sheet(3, 0, 4);
        for (int i = 0; i < 4; i++) x.mark(1, i, i + 1);
        Due.is("of sheet 1, from 0, to sheet 3, from 2", x.copy(1, 0, 3, 2, 2), 2);
        row("the one it came from", x, 1, 1, 2, 3, 4);
        row("the one it came to", x, 3, 0, 0, 1, 2);
        Due.is("of sheet 3, from 1, to sheet 1, from 0", x.copy(3, 1, 1, 0, 3), 3);
        row("the one it came from", x, 3, 0, 0, 1, 2);
        row("the one it came to", x, 1, 0, 1, 2, 4);
    }

    private static void copyRefused() {
        for (int s : NO_SHEET) {
            refused("from " + s, x -> x.copy(s, 0, 0, 0, 1), Due.BAD);
            refused("to " + s, x -> x.copy(0, 0, s, 0, 1), Due.BAD);
            refused("bad ahead of nothing: " + s, x -> x.copy(MISSING, 0, s, 0, 1), Due.BAD);
            refused("bad ahead of nothing, from " + s, x -> x.copy(s, 0, MISSING, 0, 1), Due.BAD);
        }
        refused("from one that is missing", x -> x.copy(MISSING, 0, 0, 0, 1), Due.NOTHING);
        refused("to one that is missing", x -> x.copy(0, 0, MISSING, 0, 1), Due.NOTHING);
        refused("nothing ahead of index", x -> x.copy(MISSING, -1, MISSING, 99, -1), Due.NOTHING);
        refused("shorts to floats", x -> x.copy(0, 0, 1, 0, 1), Due.KIND);
        refused("floats to shorts", x -> x.copy(1, 0, 0, 0, 1), Due.KIND);
        refused("none of another sort", x -> x.copy(0, 0, 2, 0, 0), Due.KIND);
        refused("kind ahead of index", x -> x.copy(0, -1, 1, 99, -1), Due.KIND);
        int[][] index = {{-1, 0, 1}, {0, -1, 1}, {3, 0, 1}, {0, 3, 1}, {0, 0, 4}, {1, 0, 3}, {0, 1, 3}, {2, 2, 2}, {4, 0, 0},
            {0, 4, 0}, {-1, 0, 0}, {0, -1, 0}, {0, 0, -1}, {1, 1, -1}, {3, 3, -3}, {0, 0, Due.MIN}, {0, 0, Due.MAX},
            {Due.MAX, 0, 1}, {0, Due.MAX, 1}, {1, 1, Due.MAX}, {Due.MIN, Due.MIN, 1}, {Due.MAX, Due.MAX, Due.MAX},
            {Due.MIN, 0, Due.MIN}, {Due.MIN, Due.MIN, Due.MIN}};
        for (int[] i : index) {
            refused(i[2] + " from " + i[0] + " to " + i[1], x -> x.copy(0, i[0], 0, i[1], i[2]), Due.INDEX);
        }
        refused("from one without places", x -> x.copy(2, 0, 1, 0, 1), Due.INDEX);
        refused("to one without places", x -> x.copy(1, 0, 2, 0, 1), Due.INDEX);
    }

    private static void heights(LadderTown x, int... due) {
        for (int i = 0; i < due.length; i++) Due.is("height of " + i, x.ledgeTold(i, 0), due[i]);
    }

    private static void pourHeld() {
        int[] values = {-1, 0, 99, 100, -99999, 99999};
        int[] held = {0, 0, 99, 99, 0, 99};
        LadderTown x = Due.town(50, 50, 50, 50, 50, 50);
        x.sheet(0, 1, 6);
        for (int i = 0; i < 6; i++) x.mark(0, i, values[i]);
        Due.is("all are otherwise", x.pour(0), 6);
        heights(x, held);
        for (int i = 0; i < 6; i++) Due.is("the sheet is as it was", place(x, 0, i), values[i]);
        LadderTown y = Due.town(50, 50, 50);
        y.sheet(0, 0, 3);
        y.mark(0, 0, 32768);
        y.mark(0, 1, 32767);
        y.mark(0, 2, 51);
        Due.is("all are otherwise", y.pour(0), 3);
        heights(y, 0, 99, 51);
    }

    private static void pourStays() {
        LadderTown x = Towns.rich();
        Due.is("floats: 12, none, 150, -3 for 0, 10, 25, 40, 40", x.pour(1), 3);
        heights(x, 12, 10, 99, 0, 40);
        Due.is("again", x.pour(1), 0);
        refused("a sheet without places", y -> y.pour(2), 0);
        LadderTown y = Due.town(5, 0);
        y.sheet(0, 0, 24);
        for (int i = 0; i < 24; i++) y.mark(0, i, 7 * i);
        Due.is("more places than ledges", y.pour(0), 2);
        heights(y, 0, 7);
        y.ledge(1, 1);
        Due.is("a ledge that came later", y.pour(0), 1);
        heights(y, 0, 7, 14);
        LadderTown z = Due.town(99, 0);
        z.sheet(0, 1, 2);
        z.mark(0, 0, 500);
        z.mark(0, 1, -500);
        Due.is("held, they are as they were", z.pour(0), 0);
        LadderTown empty = new LadderTown();
        empty.sheet(0, 0, 3);
        Due.is("no ledges", empty.pour(0), 0);
    }

    private static void pourRefused() {
        for (int s : NO_SHEET) refused("sheet " + s, x -> x.pour(s), Due.BAD);
        refused("missing", x -> x.pour(MISSING), Due.NOTHING);
    }

    private static void nearest() {
        // Minutes to 0, 1, 2: 0 3 11 from 0, 3 0 8 from 1, 11 8 0 from 2, 16 13 5 from 3; the shorts are 5, -7, 300.
        refused("the ledge", x -> x.nearest(0, 0), 1);
        refused("together", x -> x.nearest(0, 1), 2 + 7 + 292);
        refused("no places: the least ledge", x -> x.nearest(2, 0), 0);
        refused("no places: no differences", x -> x.nearest(2, 1), 0);
        LadderTown x = Due.town(0, 10, 20, 30, 40, 50, 60, 70, 80, 90);
        x.sheet(0, 0, 24);
        x.mark(0, 9, 999);
        Due.is("ten ledges, 24 places: the least of those from which nine are 999 away", x.nearest(0, 0), 0);
        Due.is("together", x.nearest(0, 1), 8 * 999 + 14 * 999);
        for (int i = 0; i < 9; i++) x.mark(0, i, 999);
        x.mark(0, 9, 0);
        Due.is("the last of ten", x.nearest(0, 0), 9);
        Due.is("together", x.nearest(0, 1), 14 * 999);
    }

    private static void nearestRefused() {
        for (int s : NO_SHEET) refused("sheet " + s, x -> x.nearest(s, 0), Due.BAD);
        int[] whats = {-1, 2, Due.MAX, Due.MIN};
        for (int w : whats) {
            refused("what " + w, x -> x.nearest(0, w), Due.BAD);
            refused("bad what ahead of nothing: " + w, x -> x.nearest(MISSING, w), Due.BAD);
        }
        refused("missing", x -> x.nearest(MISSING, 0), Due.NOTHING);
        Twins.refused("nothing ahead of none", LadderTown::new, x -> x.nearest(0, 0), Due.NOTHING);
        Twins.refused("no ledges", Promises33To41SentencesTest::withoutLedges, x -> x.nearest(0, 0), Due.NONE);
        Twins.refused("no ledges", Promises33To41SentencesTest::withoutLedges, x -> x.nearest(0, 1), Due.NONE);
        Twins.refused("bad ahead of none", Promises33To41SentencesTest::withoutLedges, x -> x.nearest(0, 2), Due.BAD);
    }

    private static LadderTown withoutLedges() {
        LadderTown x = new LadderTown();
        x.sheet(0, 0, 3);
        return x;
    }

    private static void lay() {
        int[] k = {77, 0, 0, 77};
        LadderTown x = Towns.rich();
        x.lay(0, 0, 0);
        int held = 0;
        for (int from = 0; from < 4; from++) {
            for (int thing = 0; thing < 4; thing++) {
                Due.is("it held " + held, x.lay(0, thing, k[thing]), held);
                Due.is("it held " + thing, x.lay(0, from, k[from]), thing);
                held = from;
            }
        }
        int[] any = {-1, Due.MAX, Due.MIN};
        for (int v : any) {
            Due.is("nothing, k any", x.lay(3, 0, v), 0);
            Due.is("any number", x.lay(3, 3, v), 0);
            Due.is("it held a number", x.lay(3, 0, 0), 3);
        }
    }

    private static void layRefused() {
        for (int s : NO_SLOT) {
            for (int t = 0; t < 4; t++) {
                int thing = t;
                refused("slot " + s + ", thing " + t, x -> x.lay(s, thing, 0), Due.BAD);
            }
            refused("bad slot ahead of nothing: " + s, x -> x.lay(s, 2, MISSING), Due.BAD);
        }
        int[] things = {-1, 4, Due.MAX, Due.MIN};
        for (int t : things) refused("thing " + t, x -> x.lay(0, t, 0), Due.BAD);
        int[] ladders = {-1, 5, 8, Due.MAX, Due.MIN};
        for (int k : ladders) refused("ladder " + k, x -> x.lay(1, 1, k), Due.BAD);
        for (int k : NO_SHEET) refused("sheet " + k, x -> x.lay(2, 2, k), Due.BAD);
        for (int s = 0; s < 5; s++) {
            int slot = s;
            refused("a sheet that is missing, slot " + s, x -> x.lay(slot, 2, MISSING), Due.NOTHING);
        }
    }

    private static void ask() {
        refused("a chain as a ladder", x -> x.ask(0, 0), 52);
        refused("a chain as a rope", x -> x.ask(0, 1), 52);
        refused("a chain as a chain", x -> x.ask(0, 3), 52);
    }

    private static void askRefused() {
        int[] kinds = {-1, 6, Due.MAX, Due.MIN};
        for (int s : NO_SLOT) refused("slot " + s, x -> x.ask(s, 0), Due.BAD);
        for (int k : kinds) {
            refused("kind " + k, x -> x.ask(0, k), Due.BAD);
            refused("bad ahead of nothing: " + k, x -> x.ask(3, k), Due.BAD);
            refused("bad ahead of kind: " + k, x -> x.ask(2, k), Due.BAD);
        }
        for (int k = 0; k < 6; k++) {
            int kind = k;
            refused("nothing, as " + k, x -> x.ask(3, kind), Due.NOTHING);
            refused("a sheet, as " + k, x -> x.ask(1, kind), Due.KIND);
            refused("a number, as " + k, x -> x.ask(2, kind), Due.KIND);
        }
        int[] others = {2, 4, 5};
        for (int k : others) refused("a chain is not of kind " + k, x -> x.ask(0, k), Due.KIND);
    }

    private static void item() {
        int[] shorts = {5, -7, 300};
        for (int i = 0; i < 3; i++) {
            int place = i;
            refused("shorts, place " + i, x -> x.item(4, place), shorts[i]);
        }
        refused("floats, the first", x -> x.item(1, 0), 12);
        refused("floats, the last", x -> x.item(1, 3), -3);
    }

    private static void itemRefused() {
        for (int s : NO_SLOT) refused("slot " + s, x -> x.item(s, -1), Due.BAD);
        refused("nothing", x -> x.item(3, 0), Due.NOTHING);
        refused("nothing ahead of index", x -> x.item(3, -1), Due.NOTHING);
        refused("a ladder", x -> x.item(0, 0), Due.KIND);
        refused("a ladder ahead of index", x -> x.item(0, -1), Due.KIND);
        refused("a number", x -> x.item(2, 0), Due.KIND);
        int[] places = {-1, 4, 24, Due.MAX, Due.MIN};
        for (int p : places) refused("place " + p, x -> x.item(1, p), Due.INDEX);
        refused("one behind the last", x -> x.item(4, 3), Due.INDEX);
        refused("no number", x -> x.item(1, 1), Due.KIND);
    }

    private static void rest() {
        int[][] cases = {{5, -2}, {-5, -2}, {17, 0}, {18, -17}, {1, 0}, {-1, 0}, {Due.MAX, -17}, {Due.MIN, -17}};
        for (int[] c : cases) refused("-17 by " + c[0], x -> x.rest(2, c[0]), c[1]);
        LadderTown x = new LadderTown();
        x.lay(0, 3, Due.MIN);
        Due.is("the lowest by -1", x.rest(0, -1), 0);
        Due.is("the lowest by itself", x.rest(0, Due.MIN), 0);
        Due.is("the lowest by the highest", x.rest(0, Due.MAX), -1);
        x.lay(0, 3, 0);
        Due.is("0 by 7", x.rest(0, 7), 0);
        Due.is("0 by 0", x.rest(0, 0), Due.NO);
    }

    private static void restRefused() {
        for (int s : NO_SLOT) refused("slot " + s, x -> x.rest(s, 0), Due.BAD);
        refused("nothing", x -> x.rest(3, 1), Due.NOTHING);
        refused("nothing ahead of no", x -> x.rest(3, 0), Due.NOTHING);
        refused("a ladder", x -> x.rest(0, 1), Due.KIND);
        refused("a ladder ahead of no", x -> x.rest(0, 0), Due.KIND);
        refused("a sheet", x -> x.rest(1, 1), Due.KIND);
        refused("a sheet ahead of no", x -> x.rest(4, 0), Due.KIND);
        refused("by 0", x -> x.rest(2, 0), Due.NO);
    }
}
