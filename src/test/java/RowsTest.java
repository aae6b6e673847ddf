/** Promises 42 to 46: rows and images. */
public final class RowsTest {
    public static void main(String[] args) {
        tell();
        check();
        checkNightByNight();
        checkOfEmptyTowns();
        checkByTextsOfTheImage();
        checkChangesNothing();
        keepAndBack();
        count();
        Due.end("RowsTest");
    }

    private static void tell() {
        LadderTown x = new LadderTown();
        for (int i = 1; i <= 60; i++) Due.is("42 tell", x.tell(-i), i);
        Due.is("42 full", x.tell(0), Due.FULL);
        Due.is("42 count", x.count(7), 60);
    }

    private static int checked(LadderTown x, int n, int... told) {
        for (int v : told) x.tell(v);
        int answer = x.check(n);
        Due.is("43 none wait", x.count(7), 0);
        return answer;
    }

    private static void check() {
        LadderTown x = Due.town(0, 9, 18, 27);
        Due.is("43 bad ahead of no", checked(x, 0, 1), Due.BAD);
        Due.is("43 no image", checked(x, 1, 1), Due.NO);
        x.ladder(0, 20, 0, 1);
        x.ladder(0, 9, 1, 2);
        x.ladder(0, 1, 2, 3);
        x.thieves(100);
        x.keep();
        // By turns ladder 0 leans at 2 and at 1; ladder 1 stays, so that all below 3 is reached always.
        Due.is("43 one night", checked(x, 1, 2, 3), 0);
        Due.is("43 two nights", checked(x, 2, 2, 3, 2, 3), 0);
        Due.is("43 first", checked(x, 1, 1, 3), 1);
        Due.is("43 second", checked(x, 1, 2, 4), 2);
        Due.is("43 third", checked(x, 2, 2, 3, 3, 3), 3);
        Due.is("43 fourth", checked(x, 2, 2, 3, 2, 2), 4);
        Due.is("43 all are missing", checked(x, 1), 1);
        Due.is("43 one is missing", checked(x, 1, 2), 2);
        Due.is("43 two are missing", checked(x, 2, 2, 3), 3);
        Due.is("43 one too many", checked(x, 1, 2, 3, 2), 3);
        Due.is("43 wrong ahead of too many", checked(x, 1, 2, 2, 2), 2);
        Due.is("43 bad", checked(x, 31, 2, 3), Due.BAD);
        Due.is("43 bad", checked(x, -1, 2, 3), Due.BAD);
        for (int i = 0; i < 60; i++) x.tell(i % 2 == 0 ? 2 : 3);
        Due.is("43 thirty nights", x.check(30), 0);
        for (int i = 0; i < 60; i++) x.tell(i % 2 == 0 ? 2 : 3);
        Due.is("43 too many", x.check(29), 59);
    }

    private static void checkNightByNight() {
        LadderTown x = Due.town(0, 10, 20, 30);
        x.ladder(0, 30, 0, 1);
        x.ladder(0, 1, 3, 0);
        x.ladder(0, 10, 2, 3);
        x.thieves(100);
        x.keep();
        // Ladder 0 leans at 2, at 3, at 1: from 2 and from 3 ladder 2 goes on.
        Due.is("43 night by night", checked(x, 4, 2, 3, 2, 3, 2, 2, 2, 3), 0);
        Due.is("43 the third night", checked(x, 4, 2, 3, 2, 3, 2, 3, 2, 3), 6);
        x.back();
        x.turns(2, 5);
        x.cut(2, 20);
        x.change(2, 0, 25);
        x.ladder(0, 99, 3, 1);
        x.keep();
        Due.is("43 what stands", checked(x, 2, 2, 3, 2, 3), 0);
    }

    private static void checkByTextsOfTheImage() {
        LadderTown x = Due.town(0, 10, 20);
        x.ladder(0, 10, 0, 1);
        x.thieves(100);
        Due.text(x, "lean h/2");
        x.keep();
        Due.text(x, "lean h");
        x.keep();
        Due.text(x, "lean 0");
        Due.is("43 only 1 is reached", checked(x, 1, 1, 2), 0);
        Due.is("43 it stays at 1", checked(x, 2, 1, 2, 1, 2), 0);
        x.back();
        Due.is("45 the text that counted", x.why(0), 1);
        Due.is("45 what it gives", x.told(0, 9), 2);
        x.back();
        Due.text(x, "lean 0");
        x.back();
        Due.is("45 what it gives", x.told(0, 9), 2);
        x = Due.town(0, 10);
        Due.text(x, "lean 5");
        x.keep();
        Due.text(x, "lean 6");
        x.keep();
        Due.text(x, "lean 8");
        x.back();
        Due.is("45 the text that counted", x.needs(0, 1), 6);
        Due.text(x, "lean 7");
        Due.is("45 another text of that number", x.needs(0, 1), 7);
        x.keep();
        x.back();
        Due.is("45 another text of that number", x.needs(0, 1), 7);
    }

    private static void checkOfEmptyTowns() {
        LadderTown x = new LadderTown();
        x.keep();
        x.ledge(0, 0);
        Due.is("43 no ledges", checked(x, 2, 0, 0, 0, 0), 0);
        x.keep();
        Due.is("43 one ledge", checked(x, 1, 0, 1), 0);
    }

    private static void checkChangesNothing() {
        LadderTown x = Due.town(0, 10, 20, 30);
        x.ladder(0, 30, 0, 1);
        x.person(0, 50);
        x.thieves(100);
        Due.text(x, "lean h");
        x.keep();
        x.move(0, 0, 3);
        x.thieves(0);
        x.seed(77);
        Due.text(x, "lean 999");
        Due.is("43 by the image, with its texts", checked(x, 3, 1, 2, 1, 2, 1, 2), 0);
        Due.is("43 top stays", x.told(0, 3), 3);
        Due.is("43 moved stays", x.told(0, 7), 1);
        Due.is("43 z stays", x.count(9), 77);
        Due.is("43 the day stays", x.count(3), 0);
        Due.is("43 texts stay", x.why(0), 1);
        x.back();
        Due.is("43 the image's top stays", x.told(0, 3), 1);
        Due.is("43 the image's z stays", x.count(9), 1);
        Due.is("43 the image's day stays", x.count(3), 0);
    }

    private static void keepAndBack() {
        LadderTown x = new LadderTown();
        Due.is("45 no image", x.back(), Due.NO);
        Due.is("44 keep", x.keep(), 0);
        x.ledge(5, 6);
        x.ledge(50, 7);
        x.ladder(2, 60, 0, 1);
        x.person(1, 9);
        x.thieves(33);
        x.seed(99);
        Due.text(x, "move s");
        x.nights(2);
        int z = x.count(9);
        Due.is("44 keep", x.keep(), 1);
        for (int again = 0; again < 3; again++) {
            x.change(0, 0, 1);
            x.change(0, 1, 1);
            x.ledge(1, 1);
            x.turns(0, 1);
            x.cut(0, 70);
            x.set(0, 0, 0);
            x.set(0, 1, 44);
            x.move(0, 0, 2);
            x.ladder(0, 5, 1, 2);
            x.person(0, 0);
            x.thieves(again);
            Due.text(x, "move 0");
            Due.text(x, "toll m");
            x.nights(3);
            x.tell(again);
            x.feed(1, 2, 3);
            Due.is("45 back", x.back(), 1);
            int[] counts = {2, 1, 1, 2, 1, 0, 1, again + 1, 12, z};
            for (int what = 0; what < 10; what++) Due.is("45 count " + what, x.count(what), counts[what]);
            int[] told = {2, 60, 0, 1, 60, 11, 1, 0, 69, 2};
            for (int what = 0; what < 10; what++) Due.is("45 told " + what, x.told(0, what), told[what]);
            Due.is("45 height", x.ledgeTold(0, 0), 5);
            Due.is("45 place", x.ledgeTold(0, 1), 6);
            Due.is("45 person", x.personTold(0, 0), 1);
            Due.is("45 strength", x.personTold(0, 1), 9);
            Due.is("45 why", x.why(1), 0);
            Due.is("45 why", x.why(2), Due.NONE);
            Due.is("45 thieves", x.thieves(33), 33);
            x.trim(0);
        }
        x.person(0, 1);
        x.set(0, 0, 0);
        x.thieves(0);
        x.nights(1);
        x.ledge(60, 6);
        Due.is("44 as moved", x.move(0, 0, 2), 1);
        x.keep();
        x.nights(1);
        Due.is("45 as moved", x.back() + x.told(0, 7), 2);
    }

    private static void count() {
        LadderTown x = Due.town(0, 10, 20, 30);
        x.ladder(0, 20, 0, 1);
        x.ladder(1, 5, 1, 2);
        x.ladder(5, 30, 0, 1);
        x.person(0, 50);
        x.person(0, 50);
        x.thieves(0);
        x.nights(7);
        x.move(0, 0, 2);
        Due.text(x, "toll m");
        x.tell(0);
        x.tell(0);
        x.feed(0, 0, 0);
        x.trim(5);
        x.seed(123);
        int[] due = {4, 3, 2, 7, 2, 1, 1, 2, 5, 123};
        for (int what = 0; what < 10; what++) Due.is("46 count " + what, x.count(what), due[what]);
        Due.is("46 bad", x.count(10), Due.BAD);
        Due.is("46 bad", x.count(-1), Due.BAD);
        Due.is("46 bad", x.count(Due.MAX), Due.BAD);
    }
}
