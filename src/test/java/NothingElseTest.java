import java.util.LinkedHashMap;
import java.util.Map;
import java.util.Set;
import java.util.TreeSet;
import java.util.function.ToIntFunction;

/** A call that is not refused changes what its promise tells, and nothing else of all that a story tells. */
public final class NothingElseTest {
    public static void main(String[] args) {
        asksOfLedgesAndPeople();
        asksOfWays();
        asksOfTextsSheetsAndSlots();
        ledgesAndLadders();
        people();
        tapeAndTexts();
        sheets();
        slots();
        rowsAndImages();
        Due.end("NothingElseTest");
    }

    /** The rows of the rich town's story that change by a call all begin as told here, and some do with each. */
    private static void only(String call, ToIntFunction<LadderTown> act, int due, String... beginnings) {
        LadderTown x = Towns.rich();
        Due.is(call, act.applyAsInt(x), due);
        Set<String> changed = changed(rows(x), rows(Towns.rich()));
        for (String beginning : beginnings) {
            Due.holds(call + " does not change " + beginning, changed.stream().anyMatch(row -> row.startsWith(beginning)));
        }
        for (String beginning : beginnings) changed.removeIf(row -> row.startsWith(beginning));
        Due.holds(call + " changes " + changed, changed.isEmpty());
    }

    private static Set<String> changed(Map<String, String> one, Map<String, String> other) {
        Set<String> changed = new TreeSet<>(one.keySet());
        changed.addAll(other.keySet());
        changed.removeIf(row -> one.containsKey(row) && one.get(row).equals(other.get(row)));
        return changed;
    }

    private static Map<String, String> rows(LadderTown x) {
        Map<String, String> rows = new LinkedHashMap<>();
        for (String row : Story.of(x)) {
            int at = row.lastIndexOf(" -> ");
            Due.holds("a story tells twice: " + row, rows.put(row.substring(0, at), row.substring(at)) == null);
        }
        return rows;
    }

    private static void asksOfLedgesAndPeople() {
        int[] ledge = {40, 8, 0, 0};
        for (int what = 0; what < 4; what++) {
            int asked = what;
            only("ledgeTold(4, " + what + ")", x -> x.ledgeTold(4, asked), ledge[what]);
        }
        int[] ladder = {3, 30, 0, 2, 40, 11, 1, 1, 52, 6};
        for (int what = 0; what < 10; what++) {
            int asked = what;
            only("told(3, " + what + ")", x -> x.told(3, asked), ladder[what]);
        }
        only("as(3, 1)", x -> x.as(3, 1), 30);
        only("needs(0, 1)", x -> x.needs(0, 1), 13);
        only("personTold(1, 0)", x -> x.personTold(1, 0), 1);
        only("personTold(1, 1)", x -> x.personTold(1, 1), 7);
        only("may(1, 1)", x -> x.may(1, 1), 1);
        only("may(0, 3)", x -> x.may(0, 3), 0);
    }

    private static void asksOfWays() {
        only("way(0, 3, 0)", x -> x.way(0, 3, 0), 16);
        only("way(0, 3, 1)", x -> x.way(0, 3, 1), 2);
        only("way(0, 3, 2)", x -> x.way(0, 3, 2), 18);
        only("way(0, 4, 2)", x -> x.way(0, 4, 2), Due.NONE);
        only("reached(1)", x -> x.reached(1), 15);
        only("needed(0, 3)", x -> x.needed(0, 3), 4);
        only("needed(0, 4)", x -> x.needed(0, 4), Due.NONE);
        only("meeting()", LadderTown::meeting, 1);
        only("above()", LadderTown::above, 0);
        only("fewest(1, 2)", x -> x.fewest(1, 2), 0);
        only("fewest(2, 4)", x -> x.fewest(2, 4), Due.NONE);
        only("help(0)", x -> x.help(0), Due.NONE);
    }

    private static void asksOfTextsSheetsAndSlots() {
        only("textTold(3, 0)", x -> x.textTold(3, 0), 0);
        only("textTold(3, 1)", x -> x.textTold(3, 1), 3);
        only("why(0)", x -> x.why(0), 3);
        only("nearest(0, 0)", x -> x.nearest(0, 0), 1);
        only("nearest(1, 1)", x -> x.nearest(1, 1), 152);
        only("ask(0, 1)", x -> x.ask(0, 1), 52);
        only("item(4, 2)", x -> x.item(4, 2), 300);
        only("rest(2, 5)", x -> x.rest(2, 5), -2);
        int[] counts = {5, 5, 4, 3, 4, 1, 4, 2, 10, -12345};
        for (int what = 0; what < 10; what++) {
            int asked = what;
            only("count(" + what + ")", x -> x.count(asked), counts[what]);
        }
    }

    private static void ledgesAndLadders() {
        only("ledge", x -> x.ledge(7, 3), 5, "now: count(0)", "now: ledgeTold(5", "now: needs(0, 5)", "now: way(0, 5, 2)");
        only("change height", x -> x.change(3, 0, 41), 40, "now: ledgeTold(3, 0)", "now: needs(0, 3)");
        only("change place", x -> x.change(3, 1, 1), 0, "now: ledgeTold(3, 1)", "now: needs(0, 3)");
        only("deal", x -> x.deal(2), 2, "now: count(0)", "now: count(9)", "now: ledgeTold(5", "now: ledgeTold(6",
            "now: needs(0, 5)", "now: needs(0, 6)", "now: way(0, 5, 2)", "now: way(0, 6, 2)");
        only("seed", x -> x.seed(5), -12345, "now: count(9)");
        only("ladder", x -> x.ladder(0, 1, 0, 1), 5, "now: count(1)", "now: told(5", "now: may(0, 5)");
        only("turns", x -> x.turns(1, 3), 1, "now: told(1, 0)");
        // As a rope it takes a minute more, so that the way by two others is the shorter one.
        only("turns one that was moved", x -> x.turns(3, 1), 3, "now: told(3, 0)", "now: way(0, 2, 2)", "now: way(0, 3, 2)");
        only("cut", x -> x.cut(0, 14), 13, "now: told(0, 1)");
        only("cut one that was moved", x -> x.cut(3, 31), 30, "now: told(3, 1)");
    }

    private static void people() {
        only("person", x -> x.person(0, 0), 4, "now: count(2)", "now: personTold(4");
        only("set ledge", x -> x.set(2, 0, 4), 1, "now: personTold(2, 0)");
        only("set strength", x -> x.set(2, 1, 3), 60, "now: personTold(2, 1)");
        only("move", x -> x.move(1, 4, 2), 3, "now: told(4, 3)", "now: told(4, 7)", "now: count(4)", "now: count(5)",
            "now: way(0, 2, 2)", "now: way(0, 3, 2)");
        only("climb", x -> x.climb(1, 1), 8, "now: personTold(1, 0)");
        only("thieves", x -> x.thieves(40), 41, "now: thieves(0)");
        // Without thieves a night takes draws, too.
        only("thieves and a night", x -> x.thieves(0) + x.nights(1), 41, "now: thieves(0)", "now: count(3)", "now: count(5)",
            "now: count(9)", "now: told(3, 7)", "now: may(0, 3)");
        only("nights", x -> x.nights(2), 3, "now: count(3)", "now: count(5)", "now: count(9)", "now: told(2, 3)",
            "now: told(3, 7)", "now: way(0, 3, 2)", "now: way(0, 4, 2)", "now: may(0, 3)");
    }

    private static void tapeAndTexts() {
        // The tape is no part of the image, so that its bytes are as many behind it.
        only("feed", x -> x.feed(0x20202020, 0x20202020, 0x20202020), 22, "now: count(8)", "image: count(8)");
        only("trim", x -> x.trim(9), 9, "now: count(8)", "image: count(8)", "tape: text", "tape: needs(");
        only("text", LadderTown::text, 4, "now: count(4)", "now: count(6)", "now: count(8)", "now: textTold(4", "now: why(0)",
            "now: needs(", "now: way(", "image: count(8)", "tape: text", "tape: needs(");
    }

    private static void sheets() {
        only("sheet", x -> x.sheet(3, 0, 2), 2, "sheet 0: copy(0 -> 3)", "sheet 1: copy(1 -> 3)", "sheet 2: copy(2 -> 3)",
            "sheet 3: ");
        only("sheet again", x -> x.sheet(1, 1, 4), 4, "sheet 1: item(");
        only("sheet that is missing", x -> x.sheet(2, -1, 0), 0, "sheet 0: copy(0 -> 2)", "sheet 1: copy(1 -> 2)", "sheet 2: ");
        only("mark shorts", x -> x.mark(0, 2, 301), 1, "sheet 0: item(0, 2)");
        only("mark floats", x -> x.mark(1, 1, 0), 1, "sheet 1: item(0, 1)");
        only("pour", x -> x.pour(0), 3, "now: ledgeTold(0, 0)", "now: ledgeTold(1, 0)", "now: ledgeTold(2, 0)", "now: count(4)",
            "now: needs(", "now: way(");
        only("copy", x -> x.copy(1, 2, 1, 3, 1), 1, "sheet 1: item(0, 3)");
    }

    private static void slots() {
        only("lay nothing", x -> x.lay(4, 0, 0), 2, "now: item(4", "now: rest(4");
        only("lay a ladder", x -> x.lay(0, 1, 4), 1, "now: ask(0");
        only("lay a sheet", x -> x.lay(1, 2, 0), 2, "now: item(1");
        only("lay a number", x -> x.lay(2, 3, -18), 3, "now: rest(2");
    }

    private static void rowsAndImages() {
        only("tell", x -> x.tell(0), 3, "now: count(7)", "rows: check");
        only("check that holds", x -> x.check(1), 0, "now: count(7)", "rows: check");
        only("check that does not", x -> x.check(2), 3, "now: count(7)", "rows: check");
        // The number of the text that stands on the tape follows those of the image.
        only("keep", LadderTown::keep, 5, "image: ", "rows: check", "tape: text()");
        // The rich town differs from its image by these.
        only("back", LadderTown::back, 4, "now: count(1)", "now: count(2)", "now: count(3)", "now: count(4)", "now: count(5)",
            "now: count(6)", "now: count(9)", "now: ledgeTold(4, 1)", "now: told(3, 3)", "now: told(3, 7)", "now: told(4",
            "now: personTold(3", "now: textTold(3", "now: why(0)", "now: needs(", "now: way(", "now: may(0, 3)", "now: may(0, 4)",
            "now: thieves(0)");
    }
}
