import java.util.List;
import java.util.Random;

/** Runs by lot, each call on a LadderTown and on a SlowTown, which answer alike. */
public final class ModelTest {
    // The document promises nothing behind an object's call 512, so that what is only looked up is asked of the model.
    private static final int RUNS = 1500, CALLS = 512, MOST_CALLS_OF_AN_ACT = 25;
    private static final int[] ODD = {-1, 0, 1, 9, 10, 11, 29, 30, 31, 99, 100, 101, Due.MAX, Due.MIN, Due.NONE, Due.BAD};

    private final Random lot;
    private final int run;
    private final LadderTown x = new LadderTown();
    private final SlowTown y = new SlowTown();
    // How often an argument is any odd number.
    private final int odds;
    private int calls = 0;

    private ModelTest(int run) {
        this.run = run;
        lot = new Random(run);
        odds = lot.nextInt(4) == 0 ? 6 : 60;
    }

    public static void main(String[] args) {
        for (int run = 0; run < RUNS; run++) new ModelTest(run).go();
        Due.end("ModelTest");
    }

    private void go() {
        if (lot.nextInt(10) > 0) build();
        askAllWays();
        while (calls <= CALLS - MOST_CALLS_OF_AN_ACT) act();
        Due.holds("run " + run + " has " + calls + " calls", calls <= CALLS);
    }

    private void due(String call, int got, int want) {
        calls++;
        Due.is("run " + run + ", call " + calls + ", " + call, got, want);
    }

    /** Below a bound mostly, one beside it at times. */
    private int upTo(int bound) {
        if (lot.nextInt(odds) == 0) return ODD[lot.nextInt(ODD.length)];
        return bound < 1 ? 0 : lot.nextInt(bound);
    }

    private int ledgeLot() {
        return upTo(y.count(0));
    }

    private int ladderLot() {
        return upTo(y.count(1));
    }

    private int personLot() {
        return upTo(y.count(2));
    }

    private void build() {
        int steep = 15 + lot.nextInt(85);
        for (int i = lot.nextInt(10); i >= 0; i--) {
            int h = lot.nextInt(steep), p = lot.nextInt(lot.nextInt(30) + 1);
            due("ledge", x.ledge(h, p), y.ledge(h, p));
        }
        for (int i = lot.nextInt(9); i > 0; i--) {
            if (lot.nextInt(3) == 0) addLadder();
            else addUsefulLadder();
        }
        for (int i = lot.nextInt(7); i > 0; i--) addPerson();
        for (int i = lot.nextInt(4); i > 0; i--) {
            int a = lot.nextInt(4), b = lot.nextInt(2), n = lot.nextInt(25);
            due("sheet", x.sheet(a, b, n), y.sheet(a, b, n));
        }
    }

    /** From a lower ledge to a higher one, and about as long as it must be. */
    private void addUsefulLadder() {
        int f = lot.nextInt(y.count(0)), t = lot.nextInt(y.count(0));
        if (f == t) return;
        if (y.ledgeTold(f, 0) > y.ledgeTold(t, 0)) {
            int lower = t;
            t = f;
            f = lower;
        }
        int k = lot.nextInt(6), n = Math.max(1, Math.min(99, y.needs(f, t) - 5 + lot.nextInt(20)));
        due("ladder " + k + " " + n + " " + f + " " + t, x.ladder(k, n, f, t), y.ladder(k, n, f, t));
    }

    private void addLadder() {
        int k = upTo(6), n = lot.nextInt(3) == 0 ? upTo(100) : 5 + lot.nextInt(40), f = ledgeLot(), t = ledgeLot();
        due("ladder " + k + " " + n + " " + f + " " + t, x.ladder(k, n, f, t), y.ladder(k, n, f, t));
    }

    private void addPerson() {
        int a = ledgeLot(), b = upTo(100);
        due("person", x.person(a, b), y.person(a, b));
    }

    private void act() {
        switch (lot.nextInt(10)) {
            case 0, 1: actOnLedges(); break;
            case 2: actOnLadders(); break;
            case 3, 4: actOnPeople(); break;
            case 5, 6: askWays(); break;
            case 7: if (lot.nextInt(2) == 0) actOnTexts(); break;
            case 8: actOnSheets(); actOnSheets(); break;
            default: actOnRows(); break;
        }
    }

    private void actOnLedges() {
        int a = ledgeLot(), b = upTo(4), c = upTo(100);
        switch (lot.nextInt(12)) {
            case 0: due("ledge", x.ledge(c, b * 7), y.ledge(c, b * 7)); break;
            case 1: case 2: case 3: due("ledgeTold " + a + " " + b, x.ledgeTold(a, b), y.ledgeTold(a, b)); break;
            case 4: case 5: due("change", x.change(a, b / 2, c), y.change(a, b / 2, c)); break;
            case 6: due("deal", x.deal(b), y.deal(b)); break;
            case 7: int z = lot.nextInt(); due("seed", x.seed(z), y.seed(z)); break;
            default: int d = ledgeLot(); due("needs " + a + " " + d, x.needs(a, d), y.needs(a, d)); break;
        }
    }

    private void actOnLadders() {
        int a = ladderLot(), b = upTo(6), c = upTo(100), d = upTo(10);
        switch (lot.nextInt(9)) {
            case 0: addLadder(); break;
            case 1: case 2: case 3: case 4: due("told " + a + " " + d, x.told(a, d), y.told(a, d)); break;
            case 5: due("as", x.as(a, b), y.as(a, b)); break;
            case 6: due("turns", x.turns(a, b), y.turns(a, b)); break;
            default: due("cut", x.cut(a, c), y.cut(a, c)); break;
        }
    }

    private void actOnPeople() {
        int a = personLot(), b = ladderLot(), c = ledgeLot(), d = upTo(100), e = upTo(2);
        switch (lot.nextInt(12)) {
            case 0: addPerson(); break;
            case 1: due("personTold", x.personTold(a, e), y.personTold(a, e)); break;
            case 2: due("set ledge", x.set(a, 0, c), y.set(a, 0, c)); break;
            case 3: due("set", x.set(a, e, d), y.set(a, e, d)); break;
            case 4: case 5: due("may " + a + " " + b, x.may(a, b), y.may(a, b)); break;
            case 6: due("move " + a + " " + b + " " + c, x.move(a, b, c), y.move(a, b, c)); break;
            case 7: case 8: moveFromFoot(a, b, c); break;
            case 9: case 10: due("climb " + a + " " + b, x.climb(a, b), y.climb(a, b)); break;
            default: nightsOrThieves(); break;
        }
    }

    private void moveFromFoot(int a, int b, int c) {
        int foot = y.told(b, 2);
        due("set foot", x.set(a, 0, foot), y.set(a, 0, foot));
        int top = c;
        for (int i = 0; i < 10 && lot.nextInt(9) > 0; i++) if ((y.told(b, 9) >> i & 1) == 1) top = i;
        due("move " + a + " " + b + " " + top, x.move(a, b, top), y.move(a, b, top));
    }

    private void nightsOrThieves() {
        int n = upTo(31), v = upTo(101);
        if (lot.nextInt(3) == 0) due("thieves", x.thieves(v), y.thieves(v));
        else due("nights " + n, x.nights(n), y.nights(n));
    }

    private void askWays() {
        int a = ledgeLot(), b = ledgeLot(), c = upTo(3), p = personLot();
        switch (lot.nextInt(7)) {
            case 0: due("way " + a + " " + b + " " + c, x.way(a, b, c), y.way(a, b, c)); break;
            case 1: due("reached " + a, x.reached(a), y.reached(a)); break;
            case 2: due("needed " + a + " " + b, x.needed(a, b), y.needed(a, b)); break;
            case 3: due("meeting", x.meeting(), y.meeting()); break;
            case 4: due("above", x.above(), y.above()); break;
            case 5: due("fewest " + p + " " + a, x.fewest(p, a), y.fewest(p, a)); break;
            default: due("help " + c, x.help(c), y.help(c)); break;
        }
    }

    private void askAllWays() {
        for (int p = 0; p < y.count(2); p++) {
            for (int a = 0; a < y.count(0); a++) due("fewest " + p + " " + a, x.fewest(p, a), y.fewest(p, a));
        }
        for (int a = 0; a < y.count(0); a++) {
            int b = lot.nextInt(y.count(0));
            due("needed " + a + " " + b, x.needed(a, b), y.needed(a, b));
            for (int c = 0; c < 2; c++) due("way " + a + " " + b + " " + c, x.way(a, b, c), y.way(a, b, c));
        }
    }

    private void actOnTexts() {
        int a = upTo(Math.max(1, y.count(6))), b = upTo(3);
        switch (lot.nextInt(7)) {
            case 0: due("textTold " + a, x.textTold(a, b / 2), y.textTold(a, b / 2)); break;
            case 1: due("why " + b, x.why(b), y.why(b)); break;
            case 2: int n = upTo(97); due("trim " + n, x.trim(n), y.trim(n)); break;
            case 3: int v = lot.nextInt(), w = lot.nextInt(); due("feed", x.feed(v, w, a), y.feed(v, w, a)); break;
            default: readText(); break;
        }
    }

    private void readText() {
        if (lot.nextInt(8) > 0) due("trim 0", x.trim(0), y.trim(0));
        String text = textLot();
        int had = y.count(8);
        for (int i = 0; i < text.length(); i += 12) {
            int a = four(text, i), b = four(text, i + 4), c = four(text, i + 8);
            due("feed", x.feed(a, b, c), y.feed(a, b, c));
        }
        int n = had + text.length();
        due("trim " + n, x.trim(n), y.trim(n));
        due("text \"" + text + "\"", x.text(), y.text());
        for (int i = 0; i < 2; i++) probeTexts();
    }

    private void probeTexts() {
        int a = ledgeLot(), b = ledgeLot(), p = personLot(), l = ladderLot();
        due("way " + a + " " + b + " 2", x.way(a, b, 2), y.way(a, b, 2));
        due("way " + a + " " + a + " 2", x.way(a, a, 2), y.way(a, a, 2));
        due("needs " + a + " " + b, x.needs(a, b), y.needs(a, b));
        int foot = y.told(l, 2);
        due("set foot", x.set(p, 0, foot), y.set(p, 0, foot));
        due("may " + p + " " + l, x.may(p, l), y.may(p, l));
    }

    private static int four(String text, int at) {
        int v = 0;
        for (int i = at; i < at + 4; i++) v = v << 8 | (i < text.length() ? text.charAt(i) & 255 : ' ');
        return v;
    }

    private String textLot() {
        StringBuilder text = new StringBuilder();
        int key = lot.nextInt(3);
        text.append(new String[] {"lean", "move", "toll"}[key]).append(' ');
        if (lot.nextInt(3) == 0) text.append(new String[] {"h+p+", "s>l|", "m*n-"}[key]);
        lawLot(text, new String[] {"hp", "sld", "mn"}[key], 2 + lot.nextInt(9));
        if (lot.nextInt(4) == 0) spoil(text);
        if (text.length() > 96) text.setLength(96);
        return text.toString();
    }

    private void lawLot(StringBuilder text, String names, int depth) {
        if (lot.nextInt(12) == 0) text.append(' ');
        int sort = depth <= 0 ? lot.nextInt(2) : lot.nextInt(7);
        if (sort == 0) {
            text.append(lot.nextInt(lot.nextInt(3) == 0 ? 10000 : 30));
        } else if (sort == 1) {
            text.append(names.charAt(lot.nextInt(names.length())));
        } else if (sort == 2) {
            text.append('!');
            lawLot(text, names, depth - 1);
        } else if (sort == 3) {
            text.append('(');
            lawLot(text, names, depth - 1);
            text.append(')');
        } else {
            lawLot(text, names, depth - 2);
            text.append("|&<=>+-*/+-*/".charAt(lot.nextInt(13)));
            lawLot(text, names, depth - 2);
        }
        if (lot.nextInt(12) == 0) text.append(' ');
    }

    private void spoil(StringBuilder text) {
        String signs = "leanmovtdsph0159 !!!!(((()))<=>+-*/&|%A\u0000\u00ff";
        for (int i = lot.nextInt(3); i >= 0; i--) {
            int at = lot.nextInt(text.length());
            switch (lot.nextInt(4)) {
                case 0: text.setCharAt(at, signs.charAt(lot.nextInt(signs.length()))); break;
                case 1: text.insert(at, signs.charAt(lot.nextInt(signs.length()))); break;
                case 2: if (text.length() > 1) text.deleteCharAt(at); break;
                default: if (lot.nextInt(4) == 0) text.setLength(at + 1);
                    else text.insert(at, lot.nextBoolean() ? "((((((" : "!!!!!!"); break;
            }
        }
    }

    private void actOnSheets() {
        int a = upTo(4), b = upTo(24), c = upTo(4), d = upTo(12), e = upTo(12), f = upTo(5);
        int[] values = {0, 5, 999, 40000, -40000, 99999, -99999, Due.NONE, Due.MAX, lot.nextInt(40), lot.nextInt()};
        int v = values[lot.nextInt(values.length)];
        switch (lot.nextInt(12)) {
            case 0: int sort = lot.nextInt(9) == 0 ? upTo(3) - 1 : lot.nextInt(2); due("sheet", x.sheet(a, sort, b), y.sheet(a, sort, b)); break;
            case 1: case 2: case 3: due("mark " + a + " " + d + " " + v, x.mark(a, d, v), y.mark(a, d, v)); break;
            case 4: if (lot.nextInt(6) == 0) due("pour " + a, x.pour(a), y.pour(a)); break;
            case 5: due("nearest " + a, x.nearest(a, f / 3), y.nearest(a, f / 3)); break;
            case 6: case 7: due("copy", x.copy(a, d, c, e, f), y.copy(a, d, c, e, f)); break;
            case 8: int k = c == 3 ? v : upTo(4); due("lay", x.lay(f, c, k), y.lay(f, c, k)); break;
            case 9: int kind = upTo(6); due("ask", x.ask(f, kind), y.ask(f, kind)); break;
            case 10: due("item", x.item(f, d), y.item(f, d)); break;
            default: due("rest", x.rest(f, v), y.rest(f, v)); break;
        }
    }

    private void actOnRows() {
        int a = upTo(10), n = upTo(8);
        switch (lot.nextInt(10)) {
            case 0: due("tell", x.tell(a), y.tell(a)); break;
            case 1: due("check " + n, x.check(n), y.check(n)); break;
            case 2: case 3: checkLot(lot.nextInt(8) + 1); break;
            case 4: due("keep", x.keep(), y.keep()); break;
            case 5: due("back", x.back(), y.back()); break;
            default: due("count " + a, x.count(a), y.count(a)); break;
        }
    }

    /** Tells the nights as they will be, with a slip at times, or some too many or too few. */
    private void checkLot(int n) {
        if (!y.hasImage()) return;
        List<Integer> row = y.nightsTold(n);
        if (lot.nextInt(3) == 0) row.set(lot.nextInt(row.size()), lot.nextInt(5));
        if (lot.nextInt(4) == 0) row.remove(row.size() - 1);
        if (lot.nextInt(4) == 0) row.add(1);
        for (int v : row) due("tell", x.tell(v), y.tell(v));
        due("check " + n, x.check(n), y.check(n));
    }
}
