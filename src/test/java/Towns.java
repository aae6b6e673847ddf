/** Towns that tests make again and again, by at most 130 calls each. */
final class Towns {
    private Towns() {
    }

    /** Something of everything, in the town, in its image and beside them. */
    static LadderTown rich() {
        LadderTown x = richWithoutWaiting();
        // The first night that the image tells, so that a check sees any other number.
        x.tell(3);
        x.tell(4);
        return x;
    }

    static LadderTown richWithoutWaiting() {
        LadderTown x = imaged();
        x.change(4, 1, 8);
        x.ladder(5, 40, 1, 3);
        x.person(3, 9);
        x.thieves(0);
        x.nights(1);
        x.thieves(41);
        x.seed(-12345);
        Due.text(x, "lean h+p+1");
        Due.is("rich: a chain is moved", x.move(0, 3, 2), 4);
        things(x);
        Due.tape(x, "lean h*3+p");
        return x;
    }

    private static LadderTown imaged() {
        LadderTown x = new LadderTown();
        x.ledge(0, 0);
        x.ledge(10, 2);
        x.ledge(25, 3);
        x.ledge(40, 0);
        x.ledge(40, 9);
        x.ladder(0, 13, 0, 1);
        x.ladder(1, 18, 1, 2);
        x.ladder(2, 24, 2, 3);
        x.ladder(3, 30, 0, 4);
        x.person(0, 50);
        x.person(1, 7);
        x.person(1, 60);
        Due.text(x, "lean h+p");
        Due.text(x, "move s>l");
        Due.text(x, "toll m+n");
        x.thieves(0);
        x.nights(2);
        x.thieves(37);
        x.seed(99);
        x.keep();
        return x;
    }

    /** Sheets: shorts, floats, floats without places, none. Slots: a ladder, a sheet, a number, nothing, a sheet. */
    private static void things(LadderTown x) {
        int[] shorts = {5, -7, 300};
        x.sheet(0, 0, 3);
        for (int i = 0; i < 3; i++) x.mark(0, i, shorts[i]);
        int[] floats = {12, Due.NONE, 150, -3};
        x.sheet(1, 1, 4);
        for (int i = 0; i < 4; i++) x.mark(1, i, floats[i]);
        x.sheet(2, 1, 0);
        x.lay(0, 1, 3);
        x.lay(1, 2, 1);
        x.lay(2, 3, -17);
        x.lay(4, 2, 0);
    }

    /** As many as there may be: ledges, ladders, people, texts, bytes, numbers that wait. Its image is empty. */
    static LadderTown full() {
        LadderTown x = new LadderTown();
        x.keep();
        for (int i = 0; i < 10; i++) x.ledge(10 * i, i);
        for (int i = 0; i < 8; i++) x.ladder(0, 11 + i, i, i + 1);
        for (int i = 0; i < 6; i++) x.person(i, 10 * i);
        for (int i = 0; i < 14; i++) leanText(x, i);
        Due.tape(x, "lean h" + "+p".repeat(45));
        for (int i = 0; i < 60; i++) x.tell(0);
        return x;
    }

    /** "lean h+p+k  " by two calls. */
    private static void leanText(LadderTown x, int k) {
        x.feed(0x6c65616e, 0x20682b70, 0x2b302020 + (k % 10 << 16));
        x.text();
    }
}
