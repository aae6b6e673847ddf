/** Promises 33 to 41: sheets and slots. */
public final class SheetsTest {
    public static void main(String[] args) {
        sheet();
        markShorts();
        markFloats();
        pour();
        nearest();
        copy();
        lay();
        layKeeps();
        ask();
        item();
        rest();
        Due.end("SheetsTest");
    }

    private static int place(LadderTown x, int sheet, int place) {
        x.lay(4, 2, sheet);
        return x.item(4, place);
    }

    private static void sheet() {
        LadderTown x = new LadderTown();
        Due.is("33 sheet", x.sheet(0, 0, 24), 24);
        Due.is("33 sheet", x.sheet(3, 1, 0), 0);
        Due.is("33 bad", x.sheet(4, 0, 1), Due.BAD);
        Due.is("33 bad", x.sheet(-1, 0, 1), Due.BAD);
        Due.is("33 bad", x.sheet(0, 2, 1), Due.BAD);
        Due.is("33 bad", x.sheet(0, -2, 1), Due.BAD);
        Due.is("33 bad", x.sheet(0, 1, 25), Due.BAD);
        Due.is("33 bad ahead of size", x.sheet(0, 2, -1), Due.BAD);
        Due.is("33 bad ahead of size", x.sheet(4, 0, -1), Due.BAD);
        Due.is("33 size", x.sheet(0, 0, -1), Due.SIZE);
        Due.is("33 size", x.sheet(0, 1, Due.MIN), Due.SIZE);
        Due.is("33 it stayed", x.mark(0, 23, 5), 1);
        Due.is("33 again", x.sheet(0, 0, 24), 24);
        Due.is("33 all 0", place(x, 0, 23), 0);
        Due.is("33 missing, n any", x.sheet(0, -1, 99), 0);
        Due.is("33 missing", x.mark(0, 0, 0), Due.NOTHING);
        Due.is("33 missing again, n any", x.sheet(0, -1, -7), 0);
        Due.is("33 a sheet without places is not missing", x.mark(3, 0, 0), Due.INDEX);
    }

    private static void markShorts() {
        LadderTown x = new LadderTown();
        Due.is("34 bad", x.mark(4, 0, 0), Due.BAD);
        Due.is("34 bad", x.mark(-1, 0, 0), Due.BAD);
        Due.is("34 nothing", x.mark(0, -1, Due.NONE), Due.NOTHING);
        x.sheet(0, 0, 2);
        Due.is("34 index", x.mark(0, 2, Due.NONE), Due.INDEX);
        Due.is("34 index", x.mark(0, -1, 0), Due.INDEX);
        Due.is("34 no number among shorts", x.mark(0, 0, Due.NONE), Due.KIND);
        int[][] shorts = {{1, 1}, {32767, 32767}, {32768, -32768}, {65535, -1}, {65536, 0}, {Due.MIN, 0}, {Due.MAX, -1},
            {-32769, 32767}};
        for (int[] s : shorts) {
            Due.is("34 mark", x.mark(0, 1, s[0]), 1);
            Due.is("34 lowest bits", place(x, 0, 1), s[1]);
        }
        Due.is("34 the other one", place(x, 0, 0), 0);
    }

    private static void markFloats() {
        LadderTown x = new LadderTown();
        x.sheet(2, 1, 3);
        int[] good = {99999, -99999, 0, 32768};
        for (int v : good) {
            Due.is("34 mark", x.mark(2, 2, v), 1);
            Due.is("34 float", place(x, 2, 2), v);
        }
        int[] bad = {100000, -100000, Due.MAX, Due.MIN, Due.NO};
        for (int v : bad) Due.is("34 bad float", x.mark(2, 2, v), Due.BAD);
        Due.is("34 it stays", place(x, 2, 2), 32768);
        Due.is("34 index ahead of bad", x.mark(2, 3, 100000), Due.INDEX);
        Due.is("34 no number", x.mark(2, 2, Due.NONE), 1);
        Due.is("34 no number", place(x, 2, 2), Due.KIND);
        Due.is("34 a number again", x.mark(2, 2, 4), 1);
        Due.is("34 a number again", place(x, 2, 2), 4);
    }

    private static void pour() {
        LadderTown x = Due.town(10, 20, 30, 40, 50);
        Due.is("35 bad", x.pour(4), Due.BAD);
        Due.is("35 bad", x.pour(-1), Due.BAD);
        Due.is("35 nothing", x.pour(0), Due.NOTHING);
        x.sheet(0, 1, 4);
        x.mark(0, 0, -5);
        x.mark(0, 1, Due.NONE);
        x.mark(0, 2, 100);
        x.mark(0, 3, 40);
        Due.is("35 how many are otherwise", x.pour(0), 2);
        int[] due = {0, 20, 99, 40, 50};
        for (int i = 0; i < 5; i++) Due.is("35 height", x.ledgeTold(i, 0), due[i]);
        Due.is("35 again", x.pour(0), 0);
        x.sheet(1, 0, 24);
        Due.is("35 more places than ledges", x.pour(1), 4);
        Due.is("35 more places than ledges", x.ledgeTold(4, 0), 0);
        x.sheet(1, 0, 0);
        Due.is("35 no places", x.pour(1), 0);
        Due.is("35 no ledges", x.count(0), 5);
    }

    private static void nearest() {
        LadderTown x = new LadderTown();
        Due.is("36 bad", x.nearest(4, 0), Due.BAD);
        Due.is("36 bad", x.nearest(-1, 0), Due.BAD);
        Due.is("36 bad ahead of nothing", x.nearest(0, 2), Due.BAD);
        Due.is("36 bad", x.nearest(0, -1), Due.BAD);
        Due.is("36 nothing", x.nearest(0, 0), Due.NOTHING);
        x.sheet(0, 1, 3);
        Due.is("36 no ledges", x.nearest(0, 0), Due.NONE);
        x = Due.town(0, 10, 20);
        x.ladder(0, 10, 0, 1);
        x.sheet(0, 1, 3);
        // Minutes: 0 3 -, 3 0 -, - - 0.
        x.mark(0, 0, 2);
        x.mark(0, 2, 1000);
        Due.is("36 the ledge", x.nearest(0, 0), 1);
        Due.is("36 together", x.nearest(0, 1), 2);
        x.mark(0, 0, Due.NONE);
        x.mark(0, 1, -4);
        Due.is("36 signs left out", x.nearest(0, 0), 1);
        Due.is("36 together", x.nearest(0, 1), 5);
        x.mark(0, 1, Due.NONE);
        Due.is("36 of several the least", x.nearest(0, 0), 0);
        Due.is("36 together", x.nearest(0, 1), 1);
        x.mark(0, 2, 0);
        Due.is("36 the last", x.nearest(0, 0), 2);
        x.sheet(1, 0, 0);
        Due.is("36 no places", x.nearest(1, 0), 0);
        Due.is("36 no places", x.nearest(1, 1), 0);
        x.sheet(1, 0, 1);
        Due.is("36 one place", x.nearest(1, 1), 0);
        x.sheet(1, 0, 24);
        Due.is("36 places without ledges count too", x.nearest(1, 1), 1002 + 21 * 999);
        Due.is("36 the ledge all the same", x.nearest(1, 0), 0);
        x.sheet(1, 1, 24);
        for (int i = 3; i < 24; i++) x.mark(1, i, 999);
        Due.is("36 beyond the ledges there is no way", x.nearest(1, 1), 1002);
        x.mark(1, 3, 1000);
        x.mark(1, 23, -99999);
        Due.is("36 beyond the ledges signs are left out", x.nearest(1, 1), 1002 + 1 + 100998);
        for (int i = 3; i < 24; i++) x.mark(1, i, Due.NONE);
        Due.is("36 beyond the ledges no number counts nothing", x.nearest(1, 1), 1002);
        x.mark(1, 5, 0);
        Due.is("36 one place beyond the ledges", x.nearest(1, 1), 1002 + 999);
        x.ledge(40, 0);
        x.ledge(50, 0);
        x.ledge(60, 0);
        Due.is("36 a ledge that comes later", x.nearest(1, 1), 1002 + 999);
        Due.is("36 a ledge that comes later", x.nearest(1, 0), 0);
    }

    private static void copy() {
        LadderTown x = new LadderTown();
        x.sheet(0, 0, 5);
        x.sheet(1, 0, 3);
        x.sheet(2, 1, 3);
        for (int i = 0; i < 5; i++) x.mark(0, i, i + 1);
        Due.is("37 bad", x.copy(4, 0, 0, 0, 1), Due.BAD);
        Due.is("37 bad", x.copy(-1, 0, 0, 0, 1), Due.BAD);
        Due.is("37 bad", x.copy(0, 0, 4, 0, 1), Due.BAD);
        Due.is("37 bad", x.copy(0, 0, -1, 0, 1), Due.BAD);
        Due.is("37 nothing", x.copy(3, 0, 0, 0, 1), Due.NOTHING);
        Due.is("37 nothing", x.copy(0, 9, 3, 0, 1), Due.NOTHING);
        Due.is("37 sorts", x.copy(0, 9, 2, 0, 1), Due.KIND);
        int[][] index = {{0, 0, 4}, {3, 0, 3}, {0, 1, 3}, {-1, 0, 1}, {0, -1, 1}, {0, 0, -1}, {6, 0, 0}, {0, 4, 0},
            {0, 0, Due.MAX}, {Due.MAX, 0, 1}, {0, Due.MAX, 1}, {Due.MAX, 0, Due.MAX}, {Due.MIN, 0, Due.MIN}, {1, 1, Due.MIN}};
        for (int[] i : index) Due.is("37 index", x.copy(0, i[0], 1, i[1], i[2]), Due.INDEX);
        for (int i = 0; i < 3; i++) Due.is("37 nothing came", place(x, 1, i), 0);
        Due.is("37 none, from the ends", x.copy(0, 5, 1, 3, 0), 0);
        Due.is("37 copy", x.copy(0, 3, 1, 1, 2), 2);
        int[] due = {0, 4, 5};
        for (int i = 0; i < 3; i++) Due.is("37 came", place(x, 1, i), due[i]);
        Due.is("37 upwards within one", x.copy(0, 0, 0, 1, 4), 4);
        int[] up = {1, 1, 2, 3, 4};
        for (int i = 0; i < 5; i++) Due.is("37 as they were", place(x, 0, i), up[i]);
        Due.is("37 downwards within one", x.copy(0, 2, 0, 0, 3), 3);
        int[] down = {2, 3, 4, 3, 4};
        for (int i = 0; i < 5; i++) Due.is("37 as they were", place(x, 0, i), down[i]);
        x.mark(2, 0, Due.NONE);
        Due.is("37 no number", x.copy(2, 0, 2, 1, 1), 1);
        Due.is("37 no number came", place(x, 2, 1), Due.KIND);
    }

    private static void lay() {
        LadderTown x = Due.town(0, 10);
        x.ladder(0, 5, 0, 1);
        x.sheet(3, 0, 1);
        int[][] bad = {{5, 0, 0}, {-1, 0, 0}, {0, 4, 0}, {0, -1, 0}, {0, 1, 1}, {0, 1, -1}, {0, 2, 4}, {0, 2, -1}};
        for (int[] b : bad) Due.is("38 bad", x.lay(b[0], b[1], b[2]), Due.BAD);
        Due.is("38 nothing", x.lay(0, 2, 0), Due.NOTHING);
        Due.is("38 ladder", x.lay(0, 1, 0), 0);
        Due.is("38 sheet", x.lay(0, 2, 3), 1);
        Due.is("38 refused, it holds on", x.lay(0, 2, 0), Due.NOTHING);
        Due.is("38 number", x.lay(0, 3, Due.MIN), 2);
        Due.is("38 nothing, k any", x.lay(0, 0, Due.MIN), 3);
        Due.is("38 it held nothing", x.lay(0, 0, 0), 0);
        Due.is("38 another one", x.lay(4, 3, 1), 0);
    }

    private static void layKeeps() {
        LadderTown x = Due.town(0, 10);
        x.ladder(3, 30, 0, 1);
        x.sheet(0, 0, 2);
        x.mark(0, 1, 7);
        x.lay(0, 1, 0);
        x.lay(1, 2, 0);
        x.turns(0, 0);
        x.cut(0, 5);
        Due.is("38 a ladder as it was", x.ask(0, 3), 52);
        x.mark(0, 1, 8);
        Due.is("38 a row of its own", x.item(1, 1), 7);
        x.sheet(0, -1, 0);
        Due.is("38 a row of its own", x.item(1, 1), 7);
        x.keep();
        x.lay(0, 3, 9);
        x.sheet(0, 1, 1);
        x.back();
        Due.is("45 slots stay", x.rest(0, 10), 9);
        Due.is("45 sheets stay", x.mark(0, 0, Due.NONE), 1);
    }

    private static void ask() {
        LadderTown x = Due.town(0, 10);
        int[] worth = {30, 26, 39, 52, 59, 10};
        int[] sets = {1, 3, 5, 11, 21, 33};
        for (int kind = 0; kind < 6; kind++) {
            x.ladder(kind, 30, 0, 1);
            x.lay(0, 1, kind);
            for (int asked = 0; asked < 6; asked++) {
                boolean is = (sets[kind] >> asked & 1) == 1;
                Due.is("39 ask " + kind + " as " + asked, x.ask(0, asked), is ? worth[kind] : Due.KIND);
            }
        }
        Due.is("39 bad", x.ask(0, 6), Due.BAD);
        Due.is("39 bad", x.ask(0, -1), Due.BAD);
        Due.is("39 bad", x.ask(5, 0), Due.BAD);
        Due.is("39 bad", x.ask(-1, 0), Due.BAD);
        Due.is("39 bad ahead of nothing", x.ask(1, 6), Due.BAD);
        Due.is("39 nothing", x.ask(1, 0), Due.NOTHING);
        x.lay(1, 3, 5);
        Due.is("39 a number", x.ask(1, 0), Due.KIND);
        x.sheet(0, 0, 1);
        x.lay(1, 2, 0);
        Due.is("39 a sheet", x.ask(1, 0), Due.KIND);
    }

    private static void item() {
        LadderTown x = Due.town(0, 10);
        x.ladder(0, 5, 0, 1);
        x.sheet(0, 1, 2);
        x.mark(0, 0, -77);
        x.mark(0, 1, Due.NONE);
        x.lay(0, 2, 0);
        x.lay(1, 1, 0);
        x.lay(2, 3, 4);
        Due.is("40 item", x.item(0, 0), -77);
        Due.is("40 no number", x.item(0, 1), Due.KIND);
        Due.is("40 index", x.item(0, 2), Due.INDEX);
        Due.is("40 index", x.item(0, -1), Due.INDEX);
        Due.is("40 a ladder", x.item(1, 99), Due.KIND);
        Due.is("40 a number", x.item(2, 0), Due.KIND);
        Due.is("40 nothing", x.item(3, 99), Due.NOTHING);
        Due.is("40 bad", x.item(5, 0), Due.BAD);
        Due.is("40 bad", x.item(-1, 0), Due.BAD);
    }

    private static void rest() {
        LadderTown x = Due.town(0, 10);
        x.ladder(0, 5, 0, 1);
        x.sheet(0, 1, 2);
        x.lay(0, 3, 17);
        x.lay(1, 1, 0);
        x.lay(2, 2, 0);
        Due.is("41 rest", x.rest(0, 5), 2);
        Due.is("41 rest", x.rest(0, -5), 2);
        Due.is("41 no by 0", x.rest(0, 0), Due.NO);
        x.lay(0, 3, -17);
        Due.is("41 rest below 0", x.rest(0, 5), -2);
        x.lay(0, 3, Due.MIN);
        Due.is("41 the lowest by -1", x.rest(0, -1), 0);
        Due.is("41 a ladder", x.rest(1, 0), Due.KIND);
        Due.is("41 a sheet", x.rest(2, 1), Due.KIND);
        Due.is("41 nothing", x.rest(3, 0), Due.NOTHING);
        Due.is("41 bad", x.rest(5, 1), Due.BAD);
        Due.is("41 bad", x.rest(-1, 0), Due.BAD);
    }
}
