import java.util.ArrayList;
import java.util.List;

/**
 * All that calls tell of a town: what it is, what is in its slots and sheets, which numbers wait, what the image is,
 * what stands on the tape. Reading it changes the town, so it is read once and last.
 */
final class Story {
    // Together with what has made a town, its calls stay below the 512 that the document promises.
    private static final int MOST_CALLS = 380;

    private final LadderTown x;
    private final List<String> rows = new ArrayList<>();
    // What is being told, ahead of each call, so that no two rows of a story have the same call.
    private String part = "now";

    private Story(LadderTown x) {
        this.x = x;
    }

    static List<String> of(LadderTown x) {
        Story story = new Story(x);
        story.counts();
        story.slots();
        story.town();
        story.sheets();
        story.image();
        story.tape();
        Due.holds("a story of " + story.rows.size() + " calls is too long", story.rows.size() <= MOST_CALLS);
        return story.rows;
    }

    private int row(String call, int answer) {
        rows.add(part + ": " + call + " -> " + answer);
        return answer;
    }

    private void counts() {
        for (int what = 0; what < 10; what++) row("count(" + what + ")", x.count(what));
    }

    private void slots() {
        for (int slot = 0; slot < 5; slot++) {
            if (row("item(" + slot + ", -1)", x.item(slot, -1)) == Due.INDEX) {
                items(slot);
            } else if (row("rest(" + slot + ", MIN)", x.rest(slot, Due.MIN)) == Due.KIND) {
                for (int kind = 0; kind < 6; kind++) row("ask(" + slot + ", " + kind + ")", x.ask(slot, kind));
            }
        }
    }

    private void items(int slot) {
        for (int place = 0; place < 25; place++) {
            if (row("item(" + slot + ", " + place + ")", x.item(slot, place)) == Due.INDEX) break;
        }
    }

    private void town() {
        int ledges = x.count(0), ladders = x.count(1), people = x.count(2), texts = x.count(6);
        for (int i = 0; i < ledges; i++) {
            for (int what = 0; what < 2; what++) row("ledgeTold(" + i + ", " + what + ")", x.ledgeTold(i, what));
        }
        int[] whats = {0, 1, 2, 3, 7};
        for (int i = 0; i < ladders; i++) {
            for (int what : whats) row("told(" + i + ", " + what + ")", x.told(i, what));
        }
        for (int i = 0; i < people; i++) {
            for (int what = 0; what < 2; what++) row("personTold(" + i + ", " + what + ")", x.personTold(i, what));
        }
        for (int i = 0; i < texts; i++) {
            for (int what = 0; what < 2; what++) row("textTold(" + i + ", " + what + ")", x.textTold(i, what));
        }
        for (int key = 0; key < 3; key++) row("why(" + key + ")", x.why(key));
        for (int i = 1; i < ledges; i++) row("needs(0, " + i + ")", x.needs(0, i));
        for (int i = 1; i < ledges; i++) row("way(0, " + i + ", 2)", x.way(0, i, 2));
        for (int i = 0; i < ladders; i++) row("may(0, " + i + ")", x.may(0, i));
        row("thieves(0)", x.thieves(0));
    }

    private void sheets() {
        for (int sheet = 0; sheet < 4; sheet++) {
            part = "sheet " + sheet;
            for (int to = sheet; to < 4; to++) row("copy(" + sheet + " -> " + to + ")", x.copy(sheet, 0, to, 0, 0));
            if (row("lay(0, 2, " + sheet + ")", x.lay(0, 2, sheet)) == Due.NOTHING) continue;
            items(0);
            row("mark(" + sheet + ", 0, NONE)", x.mark(sheet, 0, Due.NONE));
        }
    }

    private void image() {
        int nights = Math.max(1, x.count(7) / 2);
        part = "rows";
        row("check(" + nights + ")", x.check(nights));
        part = "image";
        if (row("back()", x.back()) == Due.NO) return;
        counts();
        town();
    }

    private void tape() {
        part = "tape";
        int text = row("text()", x.text());
        for (int what = 0; what < 2; what++) row("textTold(text, " + what + ")", x.textTold(text, what));
        row("ledge(0, 0)", x.ledge(0, 0));
        row("ledge(7, 3)", x.ledge(7, 3));
        row("needs(last, the one ahead)", x.needs(x.count(0) - 1, x.count(0) - 2));
        row("toll of nothing", x.way(0, 0, 2));
    }
}
