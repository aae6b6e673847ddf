/** Promises 21 to 27: ways. */
public final class WaysTest {
    public static void main(String[] args) {
        way();
        fewestLaddersOfLeastMinutes();
        toll();
        reached();
        needed();
        meeting();
        above();
        fewest();
        fewestByHelpers();
        fewestByOrder();
        help();
        Due.end("WaysTest");
    }

    private static void way() {
        LadderTown x = Due.town(0, 10, 20, 5);
        x.ladder(0, 10, 0, 1);
        x.ladder(1, 10, 1, 2);
        Due.is("21 up", x.way(0, 2, 0), 9);
        Due.is("21 down", x.way(2, 0, 0), 9);
        Due.is("21 ladders", x.way(2, 0, 1), 2);
        Due.is("21 toll without a text", x.way(0, 2, 2), 9);
        for (int what = 0; what < 3; what++) {
            Due.is("21 itself", x.way(3, 3, what), 0);
            Due.is("21 none", x.way(0, 3, what), Due.NONE);
        }
        int[][] bad = {{4, 0, 0}, {-1, 0, 0}, {0, 4, 0}, {0, -1, 0}, {0, 0, 3}, {0, 0, -1}, {0, 3, 3}};
        for (int[] b : bad) Due.is("21 bad", x.way(b[0], b[1], b[2]), Due.BAD);
        x.cut(0, 9);
        Due.is("21 it does not stand", x.way(0, 2, 0), Due.NONE);
    }

    private static void fewestLaddersOfLeastMinutes() {
        LadderTown x = Due.town(0, 4, 8, 12);
        // Three ladders of 1 minute each, a rope of 6 minutes, a ladder of 3 minutes.
        x.ladder(0, 99, 0, 1);
        x.ladder(0, 99, 1, 2);
        x.ladder(0, 99, 2, 3);
        x.ladder(1, 99, 0, 3);
        Due.is("21 least minutes", x.way(0, 3, 0), 3);
        Due.is("21 their ladders", x.way(0, 3, 1), 3);
        x.ladder(0, 99, 0, 3);
        Due.is("21 least minutes", x.way(0, 3, 0), 3);
        Due.is("21 the fewest ladders of these", x.way(0, 3, 1), 1);
    }

    private static void toll() {
        LadderTown x = Due.town(0, 10, 20);
        x.ladder(0, 10, 0, 1);
        x.ladder(0, 10, 1, 2);
        Due.text(x, "toll m*100+n");
        Due.is("21 toll", x.way(0, 2, 2), 602);
        Due.is("21 toll of itself", x.way(0, 0, 2), 0);
        Due.is("21 minutes stay", x.way(0, 2, 0), 6);
        Due.text(x, "toll 7-m");
        Due.is("21 toll of itself", x.way(0, 0, 2), 7);
        Due.is("21 toll", x.way(0, 2, 2), 1);
    }

    private static void reached() {
        LadderTown x = Due.town(30, 20, 10, 0, 40);
        x.ladder(0, 10, 3, 2);
        x.ladder(0, 10, 1, 0);
        Due.is("22 reached", x.reached(0), 3);
        Due.is("22 reached", x.reached(2), 12);
        Due.is("22 alone", x.reached(4), 16);
        x.ladder(0, 10, 2, 1);
        Due.is("22 reached", x.reached(3), 15);
        Due.is("22 bad", x.reached(5), Due.BAD);
        Due.is("22 bad", x.reached(-1), Due.BAD);
        Due.is("22 no ledges", new LadderTown().reached(0), Due.BAD);
    }

    private static void needed() {
        LadderTown x = Due.town(0, 10, 20, 30);
        x.ladder(0, 99, 0, 1);
        x.ladder(0, 99, 0, 1);
        x.ladder(0, 99, 1, 2);
        Due.is("23 itself", x.needed(3, 3), 0);
        Due.is("23 two beside one another", x.needed(0, 1), 0);
        LadderTown y = Due.town(0, 10, 20);
        y.ladder(0, 10, 0, 1);
        y.ladder(0, 10, 1, 2);
        Due.is("23 the first, too", y.needed(0, 2), 3);
        Due.is("23 the first alone", y.needed(1, 0), 1);
        Due.is("23 one alone", x.needed(2, 0), 4);
        Due.is("23 none", x.needed(0, 3), Due.NONE);
        x.cut(0, 9);
        Due.is("23 the other does not stand", x.needed(0, 2), 6);
        Due.is("23 bad", x.needed(4, 0), Due.BAD);
        Due.is("23 bad", x.needed(0, 4), Due.BAD);
        Due.is("23 bad", x.needed(-1, 0), Due.BAD);
        Due.is("23 bad", x.needed(0, -1), Due.BAD);
    }

    private static void meeting() {
        LadderTown x = Due.town(0, 10, 20, 30);
        Due.is("24 nobody", x.meeting(), Due.NONE);
        x.ladder(0, 10, 0, 1);
        x.ladder(0, 10, 1, 2);
        x.person(2, 0);
        Due.is("24 one alone", x.meeting(), 2);
        x.person(0, 0);
        Due.is("24 of several the least", x.meeting(), 0);
        x.person(2, 0);
        Due.is("24 where two are", x.meeting(), 2);
        x.person(3, 0);
        Due.is("24 one is apart", x.meeting(), Due.NONE);
        x = Due.town(0, 10, 20, 30);
        for (int i = 0; i < 3; i++) x.ladder(0, 10, i, i + 1);
        x.person(0, 0);
        x.person(2, 0);
        x.person(3, 0);
        Due.is("24 between them", x.meeting(), 2);
        x.cut(2, 9);
        Due.is("24 the last is apart", x.meeting(), Due.NONE);
    }

    private static void above() {
        LadderTown x = new LadderTown();
        Due.is("25 nobody", x.above(), 0);
        x = Due.town(0, 10);
        Due.is("25 nobody on ledges", x.above(), 0);
        x.person(1, 0);
        Due.is("25 the first", x.above(), 1);
        x = Due.town(20, 0, 10, 30);
        x.person(0, 0);
        x.person(1, 0);
        x.person(2, 0);
        x.person(3, 0);
        Due.is("25 above", x.above(), 14);
        x.ladder(0, 99, 1, 0);
        Due.is("25 above", x.above(), 12);
        x.ladder(0, 99, 1, 3);
        Due.is("25 above", x.above(), 4);
    }

    private static void fewest() {
        LadderTown x = Due.town(0, 10, 20, 30, 90);
        x.ladder(0, 30, 0, 1);
        x.ladder(1, 10, 2, 4);
        x.person(0, 30);
        Due.is("26 there", x.fewest(0, 0), 0);
        Due.is("26 by a way", x.fewest(0, 1), 0);
        Due.is("26 by one", x.fewest(0, 2), 1);
        Due.is("26 by one", x.fewest(0, 3), 1);
        Due.is("26 not by 2", x.fewest(0, 4), Due.NONE);
        x.cut(0, 20);
        Due.is("26 by two", x.fewest(0, 3), 2);
        Due.is("26 nothing moved", x.told(0, 3), 1);
        Due.is("26 nothing moved", x.told(1, 3), 4);
        Due.is("26 nothing was moved", x.count(5), 0);
        x.set(0, 1, 19);
        Due.is("26 too weak", x.fewest(0, 3), Due.NONE);
        x.set(0, 1, 20);
        x.move(0, 0, 2);
        Due.is("26 one is left", x.fewest(0, 3), 1);
        Due.is("26 moved today", x.fewest(0, 1), Due.NONE);
        int[][] bad = {{1, 0}, {-1, 0}, {0, 5}, {0, -1}};
        for (int[] b : bad) Due.is("26 bad", x.fewest(b[0], b[1]), Due.BAD);
    }

    private static void fewestByHelpers() {
        LadderTown x = Due.town(0, 10, 20);
        x.ladder(0, 10, 0, 1);
        x.ladder(2, 10, 1, 0);
        x.person(0, 50);
        x.person(0, 50);
        Due.is("26 nobody is at its foot", x.fewest(0, 2), Due.NONE);
        x.set(1, 0, 1);
        Due.is("26 one is at its foot", x.fewest(0, 2), 1);
        Due.is("26 and the other is not", x.fewest(1, 2), Due.NONE);
        x.set(0, 0, 1);
        Due.is("26 both are", x.fewest(1, 2), 1);
    }

    private static void fewestByOrder() {
        // Three moves would be needed: each rope lifts by ten.
        LadderTown x = Due.town(0, 10, 20, 30);
        x.ladder(1, 7, 0, 3);
        x.ladder(1, 7, 1, 0);
        x.ladder(1, 7, 2, 0);
        x.person(0, 0);
        Due.is("26 by one", x.fewest(0, 1), 1);
        Due.is("26 by two", x.fewest(0, 2), 2);
        Due.is("26 not by two", x.fewest(0, 3), Due.NONE);
        // Who moves the ladder by which it came is on its foot, and the way up is gone.
        LadderTown y = Due.town(0, 10, 11, 40);
        y.ladder(5, 24, 0, 1);
        y.ladder(5, 98, 1, 0);
        y.person(0, 0);
        Due.is("26 the last one first", y.fewest(0, 3), 1);
        Due.is("26 down and moved", y.fewest(0, 2), 1);
        // By two, the first of them to ledge 0, which is the highest.
        LadderTown w = Due.town(50, 0, 10, 60, 20);
        w.ladder(1, 47, 1, 2);
        w.ladder(1, 7, 0, 4);
        w.person(1, 0);
        Due.is("26 by two", w.fewest(0, 3), 2);
        Due.is("26 nothing moved", w.told(0, 3), 2);
        Due.is("26 as before", w.fewest(0, 3), 2);
    }

    private static void help() {
        LadderTown x = new LadderTown();
        Due.is("27 no ledges", x.help(0), Due.NONE);
        Due.is("27 bad", x.help(3), Due.BAD);
        Due.is("27 bad", x.help(-1), Due.BAD);
        x = Due.town(0, 10, 20, 30, 40);
        for (int what = 0; what < 3; what++) Due.is("27 no ladders", x.help(what), Due.NONE);
        x.ladder(0, 10, 0, 2);
        x.ladder(0, 20, 0, 4);
        x.ladder(0, 10, 2, 3);
        Due.is("27 the ladder", x.help(0), 1);
        Due.is("27 the ledge", x.help(1), 2);
        Due.is("27 how many", x.help(2), 3);
        Due.is("27 nothing moved", x.told(1, 3), 4);
        x.cut(2, 9);
        Due.is("27 the least ladder", x.help(0), 0);
        Due.is("27 the ledge", x.help(1), 1);
        Due.is("27 how many", x.help(2), 2);
        x.cut(0, 20);
        Due.is("27 its top alone is no more than now", x.help(0), 1);
        Due.is("27 the least ledge", x.help(1), 1);
        Due.is("27 how many", x.help(2), 3);
        x.cut(1, 1);
        for (int what = 0; what < 3; what++) Due.is("27 none is more", x.help(what), Due.NONE);
        x = Due.town(20, 0, 10);
        x.ladder(0, 99, 1, 2);
        Due.is("27 ledge 0 itself is the top", x.help(1), 0);
        Due.is("27 how many", x.help(2), 2);
        Due.is("27 one ledge without ladders", Due.town(5).help(0), Due.NONE);
    }
}
