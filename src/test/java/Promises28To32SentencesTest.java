import java.util.function.Supplier;
import java.util.function.ToIntFunction;

/** The sentences of promises 28 to 32: edges and refused calls of the tape and of texts. */
public final class Promises28To32SentencesTest {
    public static void main(String[] args) {
        Sentence.holds("Promise 28", "Twelve bytes come to THE TAPE, the highest of each number first: how many it has.",
            Promises28To32SentencesTest::feed);
        Sentence.holds("Promise 28", "FULL: it would have more than 96.", Promises28To32SentencesTest::feedRefused);
        Sentence.holds("Promise 29", "THE TAPE keeps its first n bytes: n.", Promises28To32SentencesTest::trim);
        Sentence.holds("Promise 29", "BAD.", Promises28To32SentencesTest::trimRefused);
        Sentence.holds("Promise 30", "THE TAPE is a TEXT: its number.", Promises28To32SentencesTest::text);
        Sentence.holds("Promise 30", "-100 less the place of its FAULT", Promises28To32SentencesTest::textFault);
        Sentence.holds("Promise 30", "FULL.", Promises28To32SentencesTest::textFull);
        Sentence.holds("Promise 31", "what 0 KEY (0 lean, 1 move, 2 toll), 1 how many NUMBERS and NAMES it has.",
            Promises28To32SentencesTest::textTold);
        Sentence.holds("Promise 31", "BAD.", Promises28To32SentencesTest::textToldRefused);
        Sentence.holds("Promise 32", "The TEXT that counts for a KEY.", Promises28To32SentencesTest::why);
        Sentence.holds("Promise 32", "BAD; NONE.", Promises28To32SentencesTest::whyRefused);
        Sentence.end("Promises28To32SentencesTest");
    }

    private static void bad(String what, ToIntFunction<LadderTown> call) {
        Twins.refused(what, Towns::rich, call, Due.BAD);
    }

    private static void feed() {
        LadderTown x = new LadderTown();
        // "toll", " 12*", "3-1 ", with bytes of 0 behind it in the last one.
        Due.is("twelve", x.feed(0x746f6c6c, 0x2031322a, 0x332d3100), 12);
        Due.is("the last one is no blank", x.trim(11), 11);
        Due.is("a text", x.text(), 0);
        x.ledge(0, 0);
        Due.is("12*3-1", x.way(0, 0, 2), 35);
        Due.is("below 0: its highest byte is 255", x.feed(-1, 0, 0), 12);
        Due.is("a sign by itself at 0", x.text(), -100);
        x.feed(0x6c65616e, 0x20ff2020, 0x20202020);
        Due.is("byte 255 at 5", x.text(), -105);
        x.feed(0x6c65616e, 0x20682080, 0);
        Due.is("byte 128 at 7", x.text(), -107);
        x.feed(0x6c65616e, 0x20682020, Due.MIN);
        Due.is("byte 128 at 8", x.text(), -108);
    }

    private static LadderTown withBytes(int n) {
        LadderTown x = Towns.rich();
        x.trim(0);
        Due.tape(x, ("lean h" + "+p".repeat(45)).substring(0, n));
        return x;
    }

    private static void feedRefused() {
        for (int n = 85; n <= 96; n++) {
            int had = n;
            Twins.refused("behind " + n, () -> withBytes(had), x -> x.feed(1, 2, 3), Due.FULL);
        }
        Due.is("behind 84", withBytes(84).feed(1, 2, 3), 96);
        Due.is("behind 83", withBytes(83).feed(1, 2, 3), 95);
        Twins.refused("full", Towns::full, x -> x.feed(0, 0, 0), Due.FULL);
    }

    private static void trim() {
        LadderTown x = Towns.rich();
        Due.is("all that it has", x.trim(10), 10);
        Twins.alike("all that it has", x, Towns.rich());
        LadderTown y = Towns.rich();
        Due.is("six", y.trim(6), 6);
        Due.is("how many", y.count(8), 6);
        Due.is("more come behind the six", y.feed(0x2b31322b, 0x70202020, 0x20202020), 18);
        Due.is("a text", y.text(), 4);
        Due.is("lean h+12+p", y.textTold(4, 1), 3);
        Due.is("what it gives", y.needs(0, 1), 10 + 12 + 2);
        LadderTown z = Towns.rich();
        Due.is("none", z.trim(0), 0);
        Due.is("none, of none", z.trim(0), 0);
        Due.is("how many", z.count(8), 0);
        Due.is("all of a full one", Towns.full().trim(96), 96);
    }

    private static void trimRefused() {
        int[] numbers = {-1, 11, 96, 97, Due.MAX, Due.MIN};
        for (int n : numbers) bad("keeps " + n + " of 10", x -> x.trim(n));
        Twins.refused("97 of 96", Towns::full, x -> x.trim(97), Due.BAD);
        Twins.refused("1 of none", LadderTown::new, x -> x.trim(1), Due.BAD);
    }

    private static void text() {
        LadderTown x = Towns.rich();
        Due.is("its number", x.text(), 4);
        Due.is("how many", x.count(6), 5);
        Due.is("the tape", x.count(8), 0);
        Due.is("it counts", x.why(0), 4);
        Due.is("the others stay", x.why(1), 1);
        Due.is("what it gives", x.needs(0, 1), 32);
    }

    /** Refused with this answer; then the tape is used up, and all else is as it was. */
    private static void refusedText(String what, Supplier<LadderTown> made, int due) {
        LadderTown x = made.get();
        Due.is(what, x.text(), due);
        LadderTown other = made.get();
        other.trim(0);
        Twins.alike(what, x, other);
    }

    private static void textFault() {
        for (int n = 0; n <= 9; n++) {
            int bytes = n;
            int[] due = {-100, -100, -100, -100, -104, -105, 0, -107, 0, -109};
            if (due[n] != 0) refusedText("the first " + n, () -> withTape("lean h*3+p".substring(0, bytes)), due[n]);
        }
        refusedText("the last of 96 bytes", () -> withTape("lean h" + "+p".repeat(44) + "+$"), -195);
        refusedText("behind 96 bytes", () -> withTape("lean h" + "+p".repeat(44) + "+ "), -196);
        refusedText("the first byte", () -> withTape("Lean h"), -100);
    }

    private static LadderTown withTape(String bytes) {
        LadderTown x = Towns.rich();
        x.trim(0);
        Due.tape(x, bytes);
        return x;
    }

    private static void textFull() {
        refusedText("full", Towns::full, Due.FULL);
        refusedText("a fault ahead of full", Promises28To32SentencesTest::fullWithFault, -107);
    }

    private static LadderTown fullWithFault() {
        LadderTown x = Towns.full();
        x.trim(7);
        return x;
    }

    private static void textTold() {
        String[] laws = {"lean h", "move 1+2+3", "toll (m)*!n/7-(0)", "lean " + "1+".repeat(45) + "p"};
        int[] keys = {0, 1, 2, 0};
        int[] operands = {1, 3, 4, 46};
        LadderTown x = new LadderTown();
        for (int i = 0; i < laws.length; i++) {
            Due.is(laws[i], Due.text(x, laws[i]), i);
            Due.is("its key", x.textTold(i, 0), keys[i]);
            Due.is("numbers and names", x.textTold(i, 1), operands[i]);
        }
    }

    private static void textToldRefused() {
        int[] texts = {-1, 4, 13, 14, Due.MAX, Due.MIN};
        for (int t : texts) bad("text " + t, x -> x.textTold(t, 0));
        int[] whats = {-1, 2, Due.MAX, Due.MIN};
        for (int w : whats) bad("what " + w, x -> x.textTold(0, w));
        Twins.refused("text 14 of 14", Towns::full, x -> x.textTold(14, 0), Due.BAD);
    }

    private static void why() {
        int[] due = {3, 1, 2};
        for (int k = 0; k < 3; k++) {
            int key = k;
            Twins.refused("key " + k, Towns::rich, x -> x.why(key), due[k]);
        }
        Twins.refused("the fourteenth", Towns::full, x -> x.why(0), 13);
        String[] texts = {"lean h", "move s", "toll m"};
        for (int k = 0; k < 3; k++) {
            LadderTown x = new LadderTown();
            Due.text(x, texts[k]);
            for (int other = 0; other < 3; other++) Due.is(texts[k] + " is text 0", x.why(other), k == other ? 0 : Due.NONE);
        }
    }

    private static void whyRefused() {
        int[] keys = {-1, 3, Due.MAX, Due.MIN};
        for (int k : keys) bad("key " + k, x -> x.why(k));
        Twins.refused("no text of move", Towns::full, x -> x.why(1), Due.NONE);
        Twins.refused("no text of toll", Towns::full, x -> x.why(2), Due.NONE);
        Twins.refused("no texts", LadderTown::new, x -> x.why(0), Due.NONE);
    }
}
