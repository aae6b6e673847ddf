/** Promises 13 to 20: people, and thieves by night. */
public final class PeopleTest {
    public static void main(String[] args) {
        person();
        personTold();
        set();
        may();
        mayByText();
        move();
        climb();
        thieves();
        nights();
        nightsByLot();
        Due.end("PeopleTest");
    }

    private static void person() {
        LadderTown x = new LadderTown();
        Due.is("13 no ledge", x.person(0, 0), Due.BAD);
        x.ledge(0, 0);
        Due.is("13 bad", x.person(1, 0), Due.BAD);
        Due.is("13 bad", x.person(-1, 0), Due.BAD);
        Due.is("13 bad", x.person(0, 100), Due.BAD);
        Due.is("13 bad", x.person(0, -1), Due.BAD);
        for (int i = 0; i < 6; i++) Due.is("13 person", x.person(0, i % 2 * 99), i);
        Due.is("13 full", x.person(0, 0), Due.FULL);
        Due.is("13 bad ahead of full", x.person(0, 100), Due.BAD);
        Due.is("13 count", x.count(2), 6);
    }

    private static void personTold() {
        LadderTown x = Due.town(0, 1);
        x.person(1, 44);
        Due.is("14 ledge", x.personTold(0, 0), 1);
        Due.is("14 strength", x.personTold(0, 1), 44);
        Due.is("14 bad", x.personTold(0, 2), Due.BAD);
        Due.is("14 bad", x.personTold(0, -1), Due.BAD);
        Due.is("14 bad", x.personTold(1, 0), Due.BAD);
        Due.is("14 bad", x.personTold(-1, 0), Due.BAD);
    }

    private static void set() {
        LadderTown x = Due.town(0, 1);
        x.person(1, 44);
        Due.is("15 ledge", x.set(0, 0, 0), 1);
        Due.is("15 ledge", x.set(0, 0, 1), 0);
        Due.is("15 strength", x.set(0, 1, 99), 44);
        Due.is("15 strength", x.set(0, 1, 0), 99);
        int[][] bad = {{0, 0, 2}, {0, 0, -1}, {0, 1, 100}, {0, 1, -1}, {0, 2, 0}, {0, -1, 0}, {1, 0, 0}, {-1, 0, 0}};
        for (int[] b : bad) Due.is("15 bad", x.set(b[0], b[1], b[2]), Due.BAD);
        Due.is("15 stays", x.personTold(0, 0), 1);
        Due.is("15 stays", x.personTold(0, 1), 0);
    }

    private static void may() {
        LadderTown x = Due.town(0, 10, 20);
        for (int kind = 0; kind < 6; kind++) x.ladder(kind, 30, 0, 1);
        x.person(0, 30);
        x.person(1, 29);
        int[] alone = {1, 1, 0, 1, 0, 1};
        int[] weak = {0, 1, 0, 1, 0, 1};
        int[] both = {1, 1, 1, 1, 1, 1};
        for (int kind = 0; kind < 6; kind++) {
            Due.is("16 alone, kind " + kind, x.may(0, kind), alone[kind]);
            Due.is("16 not on its foot, kind " + kind, x.may(1, kind), 0);
        }
        x.set(1, 0, 0);
        for (int kind = 0; kind < 6; kind++) {
            Due.is("16 with one more, kind " + kind, x.may(0, kind), both[kind]);
            Due.is("16 weak, kind " + kind, x.may(1, kind), weak[kind]);
        }
        x.move(0, 1, 2);
        Due.is("16 moved today", x.may(0, 1), 0);
        Due.is("16 moved today", x.may(1, 1), 0);
        x.thieves(0);
        x.nights(1);
        Due.is("16 the day behind", x.may(1, 1), 1);
        Due.is("16 bad", x.may(2, 0), Due.BAD);
        Due.is("16 bad", x.may(-1, 0), Due.BAD);
        Due.is("16 bad", x.may(0, 6), Due.BAD);
        Due.is("16 bad", x.may(0, -1), Due.BAD);
    }

    private static void mayByText() {
        LadderTown x = Due.town(0, 10, 20);
        x.ladder(0, 30, 0, 1);
        x.ladder(2, 31, 0, 1);
        x.ladder(1, 99, 0, 1);
        x.person(0, 5);
        x.person(0, 6);
        Due.text(x, "move s=5 & l=30 & d=1");
        Due.is("16 on day 0", x.may(0, 0), 0);
        x.thieves(0);
        x.nights(1);
        Due.is("16 on day 1", x.may(0, 0), 1);
        Due.is("16 another one", x.may(1, 0), 0);
        Due.is("16 heavy, by its length", x.may(0, 1), 0);
        Due.is("16 a rope, whatever the text", x.may(1, 2), 1);
        Due.text(x, "move 0-s");
        Due.is("16 below 0 is not 0", x.may(0, 0), 1);
        Due.is("16 heavy, with one more", x.may(0, 1), 1);
        x.set(1, 0, 1);
        Due.is("16 heavy, alone", x.may(0, 1), 0);
    }

    private static void move() {
        LadderTown x = Due.town(0, 10, 20, 31);
        x.ladder(0, 30, 0, 1);
        x.ladder(0, 30, 0, 3);
        x.person(0, 30);
        x.person(1, 99);
        int[][] bad = {{2, 0, 2}, {-1, 0, 2}, {0, 2, 2}, {0, -1, 2}, {0, 0, 4}, {0, 0, -1}};
        for (int[] b : bad) Due.is("17 bad", x.move(b[0], b[1], b[2]), Due.BAD);
        Due.is("17 not on its foot", x.move(1, 0, 2), Due.NO);
        Due.is("17 it is its top", x.move(0, 0, 1), Due.NO);
        Due.is("17 its foot", x.move(0, 0, 0), Due.NO);
        Due.is("17 too far", x.move(0, 0, 3), Due.NO);
        x.set(0, 1, 29);
        Due.is("17 too weak", x.move(0, 0, 2), Due.NO);
        x.set(0, 1, 30);
        Due.is("17 none was moved", x.count(5), 0);
        Due.is("17 moved", x.move(0, 0, 2), 1);
        Due.is("17 top", x.told(0, 3), 2);
        Due.is("17 moved today", x.told(0, 7), 1);
        Due.is("17 once a day", x.move(0, 0, 1), Due.NO);
        Due.is("17 from where it does not stand", x.move(0, 1, 2), 3);
        Due.is("17 two were moved", x.count(5), 2);
        x.thieves(0);
        x.nights(1);
        Due.is("17 none was moved any more", x.count(5), 0);
        Due.is("17 the day behind", x.move(0, 0, 1), 2);
    }

    private static void climb() {
        LadderTown x = Due.town(0, 10, 20);
        x.ladder(3, 30, 0, 1);
        x.ladder(0, 9, 1, 2);
        x.person(0, 0);
        x.person(2, 0);
        Due.is("18 up", x.climb(0, 0), 5);
        Due.is("18 it is above", x.personTold(0, 0), 1);
        Due.is("18 down", x.climb(0, 0), 5);
        Due.is("18 it is below", x.personTold(0, 0), 0);
        Due.is("18 on neither end", x.climb(1, 0), Due.NO);
        Due.is("18 does not stand", x.climb(1, 1), Due.NO);
        Due.is("18 it stays", x.personTold(1, 0), 2);
        Due.is("18 bad", x.climb(2, 0), Due.BAD);
        Due.is("18 bad", x.climb(-1, 0), Due.BAD);
        Due.is("18 bad", x.climb(0, 2), Due.BAD);
        Due.is("18 bad", x.climb(0, -1), Due.BAD);
    }

    private static void thieves() {
        LadderTown x = new LadderTown();
        Due.is("19 thieves", x.thieves(100), 20);
        Due.is("19 thieves", x.thieves(0), 100);
        Due.is("19 bad", x.thieves(101), Due.BAD);
        Due.is("19 bad", x.thieves(-1), Due.BAD);
        Due.is("19 stay", x.thieves(1), 0);
    }

    private static void nights() {
        LadderTown x = Due.town(5, 10, 0, 20, 30);
        // From ledge 0 it reaches 1 and 3, from ledge 2 nothing, from ledge 3 only 4.
        x.ladder(0, 15, 0, 4);
        x.ladder(0, 1, 2, 0);
        x.ladder(0, 10, 3, 4);
        x.thieves(100);
        Due.is("20 bad", x.nights(0), Due.BAD);
        Due.is("20 bad", x.nights(31), Due.BAD);
        Due.is("20 bad", x.nights(-1), Due.BAD);
        Due.is("20 no day went by", x.count(3), 0);
        Due.is("20 round to 1", x.nights(1), 1);
        Due.is("20 top", x.told(0, 3), 1);
        Due.is("20 on to 3", x.nights(1), 1);
        Due.is("20 top", x.told(0, 3), 3);
        Due.is("20 it stays where it does not stand", x.told(1, 3), 0);
        Due.is("20 it stays at the only one", x.told(2, 3), 4);
        Due.is("20 thirty", x.nights(30), 30);
        Due.is("20 days", x.count(3), 32);
        int z = 1;
        for (int i = 0; i < 32 * 3; i++) z = z * 1103515245 + 12345;
        Due.is("20 a draw for each ladder", x.count(9), z);
        x.thieves(0);
        Due.is("20 no thieves", x.nights(30), 0);
        for (int i = 0; i < 30 * 3; i++) z = z * 1103515245 + 12345;
        Due.is("20 draws without thieves, too", x.count(9), z);
        LadderTown empty = new LadderTown();
        Due.is("20 an empty town", empty.nights(2), 0);
        Due.is("20 days of an empty town", empty.count(3), 2);
        Due.is("20 no draws", empty.count(9), 1);
    }

    private static void nightsByLot() {
        for (int thieves = 0; thieves <= 100; thieves += 10) {
            LadderTown x = Due.town(0, 10, 20, 30);
            x.ladder(0, 99, 0, 1);
            x.ladder(0, 99, 0, 2);
            x.thieves(thieves);
            x.seed(thieves - 50);
            int z = thieves - 50;
            int[] top = {1, 2};
            int came = 0;
            for (int i = 0; i < 60; i++) {
                z = z * 1103515245 + 12345;
                if ((z >>> 8) % 100 < thieves) {
                    came++;
                    top[i % 2] = top[i % 2] % 3 + 1;
                }
            }
            Due.is("20 by lot", x.nights(30), came);
            Due.is("20 top by lot", x.told(0, 3), top[0]);
            Due.is("20 top by lot", x.told(1, 3), top[1]);
            Due.is("20 z", x.count(9), z);
        }
    }
}
