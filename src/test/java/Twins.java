import java.util.List;
import java.util.function.Supplier;
import java.util.function.ToIntFunction;

/** Two towns that were made alike; one is asked something more, and then the stories of both are told. */
final class Twins {
    private Twins() {
    }

    /** The call is refused with this answer, and nothing is otherwise then. */
    static void refused(String what, Supplier<LadderTown> made, ToIntFunction<LadderTown> call, int due) {
        LadderTown asked = made.get();
        Due.is(what, call.applyAsInt(asked), due);
        alike(what, asked, made.get());
    }

    static void alike(String what, LadderTown asked, LadderTown other) {
        List<String> one = Story.of(asked);
        List<String> two = Story.of(other);
        Due.is(what + ": rows of its story", one.size(), two.size());
        for (int i = 0; i < one.size() && i < two.size(); i++) {
            Due.holds(what + ": it changed something: " + one.get(i) + ", else " + two.get(i), one.get(i).equals(two.get(i)));
        }
    }

    static boolean differ(LadderTown one, LadderTown other) {
        return !Story.of(one).equals(Story.of(other));
    }
}
