import java.util.function.Supplier;
import java.util.function.ToIntFunction;

/** A story shows whatever a call changes: else it would show nothing where a refused call changes something. */
public final class StoryTest {
    public static void main(String[] args) {
        Due.is("what waits in the rich town is the image's first night", Towns.rich().check(1), 0);
        Due.is("what waits in the full town are thirty nights", Towns.full().check(30), 0);
        alike(Towns::rich);
        alike(Towns::full);
        town();
        people();
        tapeAndTexts();
        sheetsAndSlots();
        rows();
        Due.end("StoryTest");
    }

    private static void alike(Supplier<LadderTown> made) {
        Due.holds("the stories of twins differ", !Twins.differ(made.get(), made.get()));
    }

    private static void shows(String call, ToIntFunction<LadderTown> act, int due) {
        LadderTown x = Towns.rich();
        Due.is(call, act.applyAsInt(x), due);
        Due.holds("the story does not show " + call, Twins.differ(x, Towns.rich()));
    }

    private static void town() {
        shows("ledge", x -> x.ledge(0, 0), 5);
        shows("change height", x -> x.change(3, 0, 41), 40);
        shows("change place", x -> x.change(3, 1, 1), 0);
        shows("deal", x -> x.deal(1), 1);
        shows("seed", x -> x.seed(1), -12345);
        shows("ladder", x -> x.ladder(0, 1, 0, 1), 5);
        shows("turns", x -> x.turns(1, 3), 1);
        shows("cut", x -> x.cut(1, 19), 18);
    }

    private static void people() {
        shows("person", x -> x.person(0, 0), 4);
        shows("set ledge", x -> x.set(0, 0, 4), 0);
        shows("set strength", x -> x.set(0, 1, 51), 50);
        shows("move", x -> x.move(1, 4, 2), 3);
        shows("climb", x -> x.climb(1, 1), 8);
        shows("thieves", x -> x.thieves(40), 41);
        shows("nights", x -> x.nights(1) < 0 ? 1 : 0, 0);
    }

    private static void tapeAndTexts() {
        shows("feed", x -> x.feed(0x20202020, 0x20202020, 0x20202020), 22);
        shows("trim", x -> x.trim(9), 9);
        shows("another byte", x -> x.trim(9) + x.feed(0x68202020, 0x20202020, 0x20202020) + x.trim(10), 40);
        shows("text", x -> x.text(), 4);
    }

    private static void sheetsAndSlots() {
        shows("sheet", x -> x.sheet(3, 0, 0), 0);
        shows("sheet of another sort", x -> x.sheet(2, 0, 0), 0);
        shows("sheet that is missing", x -> x.sheet(2, -1, 0), 0);
        shows("mark shorts", x -> x.mark(0, 2, 301), 1);
        shows("mark floats", x -> x.mark(1, 1, 0), 1);
        shows("pour", x -> x.pour(0), 3);
        shows("copy", x -> x.copy(1, 2, 1, 3, 1), 1);
        shows("lay nothing", x -> x.lay(4, 0, 0), 2);
        shows("lay ladder", x -> x.lay(0, 1, 4), 1);
        shows("lay sheet", x -> x.lay(1, 2, 0), 2);
        shows("lay number", x -> x.lay(2, 3, -18), 3);
    }

    private static void rows() {
        shows("tell", x -> x.tell(0), 3);
        shows("check", x -> x.check(1), 0);
        shows("keep", x -> x.keep(), 5);
        shows("back", x -> x.back(), 4);
        Due.holds("the story does not show which numbers wait", Twins.differ(waiting(4), waiting(5)));
    }

    private static LadderTown waiting(int last) {
        LadderTown x = Towns.richWithoutWaiting();
        x.tell(3);
        x.tell(last);
        return x;
    }
}
