/** Promises 1 to 12: a new object, ledges and ladders. */
public final class LedgesTest {
    public static void main(String[] args) {
        newObject();
        ledge();
        ledgeTold();
        change();
        deal();
        seed();
        ladder();
        toldByKind();
        toldOfTops();
        as();
        turns();
        cut();
        needs();
        Due.end("LedgesTest");
    }

    private static void newObject() {
        LadderTown x = new LadderTown();
        for (int what = 0; what <= 8; what++) Due.is("1 count(" + what + ")", x.count(what), 0);
        Due.is("1 z", x.count(9), 1);
        Due.is("1 thieves", x.thieves(0), 20);
        Due.is("1 sheet is missing", x.pour(3), Due.NOTHING);
        for (int slot = 0; slot < 5; slot++) Due.is("1 slot holds nothing", x.lay(slot, 0, 0), 0);
        Due.is("1 no image", x.back(), Due.NO);
        for (int key = 0; key < 3; key++) Due.is("1 no text", x.why(key), Due.NONE);
    }

    private static void ledge() {
        LadderTown x = new LadderTown();
        int[][] bad = {{-1, 0}, {100, 0}, {0, -1}, {0, 30}, {Due.MAX, Due.MIN}, {Due.MIN, 0}};
        for (int[] b : bad) Due.is("2 ledge", x.ledge(b[0], b[1]), Due.BAD);
        Due.is("2 nothing came", x.count(0), 0);
        for (int i = 0; i < 10; i++) Due.is("2 ledge", x.ledge(i % 2 * 99, i % 2 * 29), i);
        Due.is("2 full", x.ledge(0, 0), Due.FULL);
        Due.is("2 bad ahead of full", x.ledge(100, 0), Due.BAD);
        Due.is("2 count", x.count(0), 10);
    }

    private static void ledgeTold() {
        LadderTown x = new LadderTown();
        Due.is("3 no ledge", x.ledgeTold(0, 0), Due.BAD);
        x.ledge(7, 8);
        x.ledge(99, 29);
        x.person(1, 1);
        x.person(0, 1);
        x.person(1, 1);
        x.ladder(0, 5, 1, 0);
        x.ladder(0, 5, 0, 1);
        x.ladder(0, 5, 1, 0);
        int[] due = {7, 8, 1, 2};
        int[] dueOther = {99, 29, 2, 5};
        for (int what = 0; what < 4; what++) {
            Due.is("3 ledge 0, " + what, x.ledgeTold(0, what), due[what]);
            Due.is("3 ledge 1, " + what, x.ledgeTold(1, what), dueOther[what]);
        }
        Due.is("3 what", x.ledgeTold(0, 4), Due.BAD);
        Due.is("3 what", x.ledgeTold(0, -1), Due.BAD);
        Due.is("3 ledge", x.ledgeTold(2, 0), Due.BAD);
        Due.is("3 ledge", x.ledgeTold(-1, 0), Due.BAD);
    }

    private static void change() {
        LadderTown x = Due.town(10);
        Due.is("4 height", x.change(0, 0, 99), 10);
        Due.is("4 height", x.change(0, 0, 0), 99);
        Due.is("4 place", x.change(0, 1, 29), 0);
        Due.is("4 place", x.change(0, 1, 0), 29);
        int[][] bad = {{0, 0, 100}, {0, 0, -1}, {0, 1, 30}, {0, 1, -1}, {0, 2, 1}, {0, -1, 1}, {1, 0, 1}, {-1, 0, 1}};
        for (int[] b : bad) Due.is("4 bad", x.change(b[0], b[1], b[2]), Due.BAD);
        Due.is("4 height stays", x.ledgeTold(0, 0), 0);
        Due.is("4 place stays", x.ledgeTold(0, 1), 0);
    }

    private static void deal() {
        LadderTown x = new LadderTown();
        Due.is("5 bad", x.deal(0), Due.BAD);
        Due.is("5 bad", x.deal(11), Due.BAD);
        Due.is("5 bad", x.deal(-1), Due.BAD);
        Due.is("5 no draws", x.count(9), 1);
        Due.is("5 two", x.deal(2), 2);
        int z = 1;
        for (int i = 0; i < 2; i++) {
            z = z * 1103515245 + 12345;
            Due.is("5 height", x.ledgeTold(i, 0), (z >>> 8) % 100);
            z = z * 1103515245 + 12345;
            Due.is("5 place", x.ledgeTold(i, 1), (z >>> 8) % 30);
        }
        Due.is("5 z", x.count(9), z);
        for (int i = 0; i < 7; i++) x.ledge(0, 0);
        Due.is("5 room for one", x.deal(10), 1);
        z = (z * 1103515245 + 12345) * 1103515245 + 12345;
        Due.is("5 draws of one", x.count(9), z);
        Due.is("5 no room", x.deal(1), 0);
        Due.is("5 no draws", x.count(9), z);
    }

    private static void seed() {
        LadderTown x = new LadderTown();
        Due.is("6 seed", x.seed(Due.MIN), 1);
        Due.is("6 seed", x.seed(-5), Due.MIN);
        Due.is("6 z", x.count(9), -5);
        x.deal(1);
        int z = -5 * 1103515245 + 12345;
        Due.is("6 drawn from it, without its sign", x.ledgeTold(0, 0), (z >>> 8) % 100);
    }

    private static void ladder() {
        LadderTown x = Due.town(0, 10);
        int[][] bad = {{-1, 5, 0, 1}, {6, 5, 0, 1}, {0, 0, 0, 1}, {0, 100, 0, 1}, {0, 5, 2, 1}, {0, 5, -1, 1},
            {0, 5, 0, 2}, {0, 5, 0, -1}, {0, 5, 1, 1}, {Due.MAX, Due.MAX, Due.MAX, Due.MAX}};
        for (int[] b : bad) Due.is("7 bad", x.ladder(b[0], b[1], b[2], b[3]), Due.BAD);
        Due.is("7 none came", x.count(1), 0);
        for (int i = 0; i < 8; i++) Due.is("7 ladder", x.ladder(i % 6, i % 2 == 0 ? 1 : 99, i % 2, 1 - i % 2), i);
        Due.is("7 full", x.ladder(0, 5, 0, 1), Due.FULL);
        Due.is("7 bad ahead of full", x.ladder(6, 5, 0, 1), Due.BAD);
        Due.is("7 not moved", x.count(5), 0);
    }

    private static void toldByKind() {
        LadderTown x = Due.town(0, 23);
        for (int kind = 0; kind < 6; kind++) x.ladder(kind, 27, 0, 1);
        // A rise of 23 is 4 by 5.
        int[] reach = {27, 30, 27, 36, 25, 13};
        int[] minutes = {5, 10, 6, 9, 6, 5};
        int[] worth = {27, 23, 36, 46, 56, 13};
        for (int kind = 0; kind < 6; kind++) {
            String of = "8 kind " + kind;
            Due.is(of, x.told(kind, 0), kind);
            Due.is(of + " length", x.told(kind, 1), 27);
            Due.is(of + " foot", x.told(kind, 2), 0);
            Due.is(of + " top", x.told(kind, 3), 1);
            Due.is(of + " reach", x.told(kind, 4), reach[kind]);
            Due.is(of + " minutes", x.told(kind, 5), minutes[kind]);
            Due.is(of + " stands", x.told(kind, 6), kind == 5 ? 0 : 1);
            Due.is(of + " moved", x.told(kind, 7), 0);
            Due.is(of + " worth", x.told(kind, 8), worth[kind]);
            Due.is(of + " reaches", x.told(kind, 9), kind == 5 ? 0 : 2);
        }
        Due.is("8 what", x.told(0, 10), Due.BAD);
        Due.is("8 what", x.told(0, -1), Due.BAD);
        Due.is("8 ladder", x.told(6, 0), Due.BAD);
        Due.is("8 ladder", x.told(-1, 0), Due.BAD);
        x.cut(4, 1);
        Due.is("8 iron reaches 0 at least", x.told(4, 4), 0);
        x.cut(5, 99);
        Due.is("8 worth of folded below 0", x.told(5, 8), -59);
        x.cut(3, 1);
        Due.is("8 worth of chain below 0", x.told(3, 8), -6);
    }

    private static void toldOfTops() {
        LadderTown x = Due.town(20, 20, 10, 30, 31);
        x.ladder(0, 10, 0, 2);
        Due.is("8 top is lower: it does not stand", x.told(0, 6), 0);
        Due.is("8 top is lower: no rise", x.told(0, 5), 1);
        Due.is("8 as high is not reached, 10 is, 11 is not", x.told(0, 9), 8);
        x.cut(0, 99);
        Due.is("8 higher ones alone", x.told(0, 9), 24);
        x.ladder(3, 99, 0, 1);
        Due.is("8 chain without a rise", x.told(1, 5), 1);
        Due.is("8 as high does not stand", x.told(1, 6), 0);
        x.change(3, 1, 29);
        x.cut(0, 38);
        Due.is("8 places count", x.told(0, 9), 16);
        x.cut(0, 39);
        Due.is("8 places count", x.told(0, 9), 24);
    }

    private static void as() {
        LadderTown x = Due.town(0, 10);
        int[] sets = {1, 3, 5, 11, 21, 33};
        for (int kind = 0; kind < 6; kind++) x.ladder(kind, 10 + kind, 0, 1);
        for (int kind = 0; kind < 6; kind++) {
            for (int asked = 0; asked < 6; asked++) {
                boolean is = (sets[kind] >> asked & 1) == 1;
                Due.is("9 as(" + kind + ", " + asked + ")", x.as(kind, asked), is ? 10 + kind : Due.KIND);
            }
            Due.is("9 kind", x.as(kind, 6), Due.BAD);
            Due.is("9 kind", x.as(kind, -1), Due.BAD);
        }
        Due.is("9 ladder", x.as(6, 0), Due.BAD);
        Due.is("9 ladder", x.as(-1, 0), Due.BAD);
    }

    private static void turns() {
        LadderTown x = Due.town(0, 10, 20);
        x.ladder(0, 30, 0, 1);
        x.person(0, 40);
        x.move(0, 0, 2);
        Due.is("10 turns", x.turns(0, 3), 0);
        Due.is("10 turns", x.turns(0, 4), 3);
        Due.is("10 as it is", x.turns(0, 4), 4);
        Due.is("10 told", x.told(0, 0), 4);
        int[] due = {30, 0, 2, 28, 6, 1, 1, 59, 6};
        for (int what = 1; what < 10; what++) Due.is("10 told " + what, x.told(0, what), due[what - 1]);
        Due.is("10 bad", x.turns(0, 6), Due.BAD);
        Due.is("10 bad", x.turns(0, -1), Due.BAD);
        Due.is("10 bad", x.turns(1, 0), Due.BAD);
        Due.is("10 bad", x.turns(-1, 0), Due.BAD);
        Due.is("10 stays", x.told(0, 0), 4);
    }

    private static void cut() {
        LadderTown x = Due.town(0, 10);
        x.ladder(0, 10, 0, 1);
        Due.is("11 cut", x.cut(0, 99), 10);
        Due.is("11 cut", x.cut(0, 1), 99);
        Due.is("11 bad", x.cut(0, 0), Due.BAD);
        Due.is("11 bad", x.cut(0, 100), Due.BAD);
        Due.is("11 bad", x.cut(1, 5), Due.BAD);
        Due.is("11 bad", x.cut(-1, 5), Due.BAD);
        Due.is("11 length", x.told(0, 1), 1);
        Due.is("11 stands no more", x.told(0, 6), 0);
    }

    private static void needs() {
        LadderTown x = new LadderTown();
        x.ledge(10, 25);
        x.ledge(40, 5);
        x.ledge(40, 7);
        Due.is("12 needs", x.needs(0, 1), 50);
        Due.is("12 needs", x.needs(1, 0), 50);
        Due.is("12 as high", x.needs(2, 1), 2);
        Due.is("12 itself", x.needs(1, 1), Due.BAD);
        Due.is("12 bad", x.needs(0, 3), Due.BAD);
        Due.is("12 bad", x.needs(3, 0), Due.BAD);
        Due.is("12 bad", x.needs(-1, 0), Due.BAD);
        Due.is("12 bad", x.needs(0, -1), Due.BAD);
        Due.text(x, "lean h*10+p");
        Due.is("12 by a text, the lower first", x.needs(1, 0), 320);
        Due.is("12 by a text, the lower first", x.needs(0, 1), 320);
        Due.text(x, "lean h*100");
        Due.is("12 held at 999", x.needs(0, 1), 999);
        Due.text(x, "lean p-h");
        Due.is("12 held at 0", x.needs(0, 1), 0);
        Due.is("12 above 0", x.needs(1, 2), 2);
    }
}
