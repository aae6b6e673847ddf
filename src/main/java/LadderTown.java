import java.util.Arrays;

/** A town of ledges that are joined by ladders alone. The document DOC.md says what each call answers. */
public final class LadderTown {
    public static final int BAD = -1000000001, NO = -1000000002, FULL = -1000000003, NONE = -1000000005,
        NOTHING = -1000000011, KIND = -1000000012, INDEX = -1000000013, SIZE = -1000000014;

    private static final int MOST_LEDGES = 10, MOST_LADDERS = 8, MOST_PEOPLE = 6, MOST_TEXTS = 14;
    private static final int HEIGHTS = 100, PLACES = 30, MOST_LENGTH = 99, STRENGTHS = 100, KINDS = 6;
    private static final int MOST_NIGHTS = 30, MOST_THIEVES = 100, MOST_MOVES = 2;
    private static final int MOST_NEEDED = 999, NO_WAY_MINUTES = 999;
    private static final int MOST_BYTES = 96, FED_BYTES = 12, MOST_DIGITS = 4, MOST_NESTED = 8, FAULT_BASE = -100;
    private static final int KEYS = 3, LEAN = 0, MOVE = 1, TOLL = 2;
    private static final int SHEETS = 4, MOST_PLACES = 24, MISSING = -1, SHORTS = 0, FLOATS = 1, FLOAT_BOUND = 99999;
    private static final int SLOTS = 5, EMPTY = 0, HOLDS_LADDER = 1, HOLDS_SHEET = 2, HOLDS_NUMBER = 3;
    private static final int MOST_WAITING = 60;

    private final LadderKind[] kinds = {
        new LadderKind(), new RopeKind(), new HeavyKind(), new ChainKind(), new IronKind(), new FoldedKind()
    };
    private final Town now = new Town(kinds);
    private final Town image = new Town(kinds);
    // The image's nights are gone through here, so that neither the town nor the image changes.
    private final Town trial = new Town(kinds);
    private boolean imageKept = false;
    private final Ways ways = new Ways(now);
    private final Reader reader = new Reader();
    private final Sheet[] sheets = {new Sheet(), new Sheet(), new Sheet(), new Sheet()};
    private final int[] slotThing = new int[SLOTS];
    private final int[] slotKind = new int[SLOTS];
    // The number that a slot holds, or the length of its ladder.
    private final int[] slotNumber = new int[SLOTS];
    private final Sheet[] slotSheet = {new Sheet(), new Sheet(), new Sheet(), new Sheet(), new Sheet()};
    private final int[] waiting = new int[MOST_WAITING];
    private int waits = 0;

    public LadderTown() {
    }

    // ---- ledges, ladders

    public int ledge(int height, int place) {
        if (!within(height, HEIGHTS) || !within(place, PLACES)) return BAD;
        if (now.ledges >= MOST_LEDGES) return FULL;
        return now.addLedge(height, place);
    }

    public int ledgeTold(int ledge, int what) {
        if (!within(ledge, now.ledges)) return BAD;
        switch (what) {
            case 0: return now.height[ledge];
            case 1: return now.place[ledge];
            case 2: return now.peopleOn(ledge);
            case 3: return now.laddersFrom(ledge);
            default: return BAD;
        }
    }

    public int change(int ledge, int what, int v) {
        if (!within(ledge, now.ledges) || !within(what, 2)) return BAD;
        if (!within(v, what == 0 ? HEIGHTS : PLACES)) return BAD;
        return exchange(what == 0 ? now.height : now.place, ledge, v);
    }

    public int deal(int n) {
        if (n < 1 || n > MOST_LEDGES) return BAD;
        int came = Math.min(n, MOST_LEDGES - now.ledges);
        for (int i = 0; i < came; i++) {
            int height = now.draw() % HEIGHTS;
            int place = now.draw() % PLACES;
            now.addLedge(height, place);
        }
        return came;
    }

    public int seed(int v) {
        int was = now.z;
        now.z = v;
        return was;
    }

    public int ladder(int kind, int length, int foot, int top) {
        if (!within(kind, KINDS) || !isLength(length)) return BAD;
        if (!within(foot, now.ledges) || !within(top, now.ledges) || foot == top) return BAD;
        if (now.ladders >= MOST_LADDERS) return FULL;
        return now.addLadder(kind, length, foot, top);
    }

    public int told(int ladder, int what) {
        if (!within(ladder, now.ladders)) return BAD;
        switch (what) {
            case 0: return now.kind[ladder];
            case 1: return now.length[ladder];
            case 2: return now.foot[ladder];
            case 3: return now.top[ladder];
            case 4: return now.reachOf(ladder);
            case 5: return now.minutesOf(ladder);
            case 6: return now.standsNow(ladder) ? 1 : 0;
            case 7: return has(now.moved, ladder) ? 1 : 0;
            case 8: return kinds[now.kind[ladder]].worth(now.length[ladder]);
            case 9: return now.ledgesInReach(ladder);
            default: return BAD;
        }
    }

    public int as(int ladder, int kind) {
        if (!within(ladder, now.ladders) || !within(kind, KINDS)) return BAD;
        return kinds[now.kind[ladder]].isKind(kind) ? now.length[ladder] : KIND;
    }

    public int turns(int ladder, int kind) {
        if (!within(ladder, now.ladders) || !within(kind, KINDS)) return BAD;
        return exchange(now.kind, ladder, kind);
    }

    public int cut(int ladder, int v) {
        if (!within(ladder, now.ladders) || !isLength(v)) return BAD;
        return exchange(now.length, ladder, v);
    }

    public int needs(int one, int other) {
        if (!within(one, now.ledges) || !within(other, now.ledges) || one == other) return BAD;
        return now.lengthBetween(one, other);
    }

    // ---- people

    public int person(int ledge, int strength) {
        if (!within(ledge, now.ledges) || !within(strength, STRENGTHS)) return BAD;
        if (now.people >= MOST_PEOPLE) return FULL;
        return now.addPerson(ledge, strength);
    }

    public int personTold(int person, int what) {
        if (!within(person, now.people)) return BAD;
        switch (what) {
            case 0: return now.spot[person];
            case 1: return now.strength[person];
            default: return BAD;
        }
    }

    public int set(int person, int what, int v) {
        if (!within(person, now.people) || !within(what, 2)) return BAD;
        if (!within(v, what == 0 ? now.ledges : STRENGTHS)) return BAD;
        return exchange(what == 0 ? now.spot : now.strength, person, v);
    }

    public int may(int person, int ladder) {
        if (!within(person, now.people) || !within(ladder, now.ladders)) return BAD;
        return now.canMove(person, ladder) ? 1 : 0;
    }

    public int move(int person, int ladder, int top) {
        if (!within(person, now.people) || !within(ladder, now.ladders) || !within(top, now.ledges)) return BAD;
        if (!now.canMove(person, ladder) || now.top[ladder] == top || !now.inReach(ladder, top)) return NO;
        now.moved |= 1 << ladder;
        return exchange(now.top, ladder, top);
    }

    public int climb(int person, int ladder) {
        if (!within(person, now.people) || !within(ladder, now.ladders)) return BAD;
        if (!now.standsNow(ladder)) return NO;
        if (now.spot[person] == now.foot[ladder]) now.spot[person] = now.top[ladder];
        else if (now.spot[person] == now.top[ladder]) now.spot[person] = now.foot[ladder];
        else return NO;
        return now.minutesOf(ladder);
    }

    public int thieves(int v) {
        if (v < 0 || v > MOST_THIEVES) return BAD;
        int was = now.thieves;
        now.thieves = v;
        return was;
    }

    public int nights(int n) {
        if (n < 1 || n > MOST_NIGHTS) return BAD;
        ways.look(now);
        int came = 0;
        for (int i = 0; i < n; i++) came += now.night(ways.reaches);
        return came;
    }

    // ---- ways

    public int way(int from, int to, int what) {
        if (!within(from, now.ledges) || !within(to, now.ledges) || !within(what, 3)) return BAD;
        ways.look(now);
        ways.measureFrom(from);
        if (!ways.measured(to)) return NONE;
        switch (what) {
            case 0: return ways.minutesTo(to);
            case 1: return ways.laddersTo(to);
            default: return now.tollOf(ways.minutesTo(to), ways.laddersTo(to));
        }
    }

    public int reached(int from) {
        if (!within(from, now.ledges)) return BAD;
        ways.look(now);
        return ways.reachedFrom(from);
    }

    public int needed(int from, int to) {
        if (!within(from, now.ledges) || !within(to, now.ledges)) return BAD;
        ways.look(now);
        if (!has(ways.reachedFrom(from), to)) return NONE;
        int ladders = 0;
        for (int i = 0; i < now.ladders; i++) {
            if (!has(ways.reachedWithout(i, from), to)) ladders |= 1 << i;
        }
        return ladders;
    }

    public int meeting() {
        if (now.people == 0) return NONE;
        ways.look(now);
        int best = NONE;
        int least = 0;
        for (int i = 0; i < now.ledges; i++) {
            int minutes = ways.minutesOfAllTo(i);
            if (minutes >= 0 && (best == NONE || minutes < least)) {
                best = i;
                least = minutes;
            }
        }
        return best;
    }

    public int above() {
        if (now.people == 0) return 0;
        ways.look(now);
        int ground = ways.reachedFrom(0);
        int left = 0;
        for (int i = 0; i < now.people; i++) {
            if (!has(ground, now.spot[i])) left |= 1 << i;
        }
        return left;
    }

    public int fewest(int person, int ledge) {
        if (!within(person, now.people) || !within(ledge, now.ledges)) return BAD;
        ways.look(now);
        return ways.fewestMoves(now.spot[person], ledge, now.movableFromFoot(person));
    }

    public int help(int what) {
        if (!within(what, 3)) return BAD;
        if (now.ledges == 0) return NONE;
        ways.look(now);
        int most = Integer.bitCount(ways.reachedFrom(0));
        int ladder = NONE;
        int ledge = NONE;
        for (int i = 0; i < now.ladders; i++) {
            for (int k = 0; k < now.ledges; k++) {
                int count = has(ways.reaches[i], k) ? ways.reachedIfMoved(i, k) : 0;
                if (count > most) {
                    most = count;
                    ladder = i;
                    ledge = k;
                }
            }
        }
        if (ladder == NONE) return NONE;
        return what == 0 ? ladder : what == 1 ? ledge : most;
    }

    // ---- texts

    public int feed(int a, int b, int c) {
        if (reader.bytes + FED_BYTES > MOST_BYTES) return FULL;
        reader.take(a);
        reader.take(b);
        reader.take(c);
        return reader.bytes;
    }

    public int trim(int n) {
        if (n < 0 || n > reader.bytes) return BAD;
        reader.bytes = n;
        return n;
    }

    public int text() {
        Text read = reader.readText();
        if (read == null) return FAULT_BASE - reader.at;
        if (now.textCount >= MOST_TEXTS) return FULL;
        return now.addText(read);
    }

    public int textTold(int text, int what) {
        if (!within(text, now.textCount) || !within(what, 2)) return BAD;
        Text asked = now.texts[text];
        if (asked == null) return BAD;
        return what == 0 ? asked.key : asked.operands;
    }

    public int why(int key) {
        if (!within(key, KEYS)) return BAD;
        return now.lastOfKey[key] < 0 ? NONE : now.lastOfKey[key];
    }

    // ---- sheets, slots

    public int sheet(int sheet, int sort, int n) {
        if (!within(sheet, SHEETS) || sort < MISSING || sort > FLOATS) return BAD;
        if (sort != MISSING && n > MOST_PLACES) return BAD;
        if (sort != MISSING && n < 0) return SIZE;
        int places = sort == MISSING ? 0 : n;
        sheets[sheet].become(sort, places);
        return places;
    }

    public int mark(int sheet, int place, int v) {
        if (!within(sheet, SHEETS)) return BAD;
        Sheet marked = sheets[sheet];
        if (marked.sort == MISSING) return NOTHING;
        if (!within(place, marked.size)) return INDEX;
        if (marked.sort == SHORTS) {
            if (v == NONE) return KIND;
            marked.places[place] = (short) v;
            return 1;
        }
        if (v != NONE && (v < -FLOAT_BOUND || v > FLOAT_BOUND)) return BAD;
        marked.places[place] = v;
        return 1;
    }

    public int pour(int sheet) {
        if (!within(sheet, SHEETS)) return BAD;
        Sheet poured = sheets[sheet];
        if (poured.sort == MISSING) return NOTHING;
        int changed = 0;
        for (int i = 0; i < now.ledges && i < poured.size; i++) {
            if (poured.places[i] == NONE) continue;
            int height = Math.max(0, Math.min(HEIGHTS - 1, poured.places[i]));
            if (exchange(now.height, i, height) != height) changed++;
        }
        return changed;
    }

    public int nearest(int sheet, int what) {
        if (!within(sheet, SHEETS) || !within(what, 2)) return BAD;
        if (sheets[sheet].sort == MISSING) return NOTHING;
        if (now.ledges == 0) return NONE;
        ways.look(now);
        int best = 0;
        int least = ways.differenceFrom(0, sheets[sheet]);
        for (int i = 1; i < now.ledges; i++) {
            int difference = ways.differenceFrom(i, sheets[sheet]);
            if (difference < least) {
                best = i;
                least = difference;
            }
        }
        return what == 0 ? best : least;
    }

    public int copy(int from, int place, int to, int at, int many) {
        if (!within(from, SHEETS) || !within(to, SHEETS)) return BAD;
        Sheet source = sheets[from];
        Sheet target = sheets[to];
        if (source.sort == MISSING || target.sort == MISSING) return NOTHING;
        if (source.sort != target.sort) return KIND;
        if (!source.hasPlaces(place, many) || !target.hasPlaces(at, many)) return INDEX;
        System.arraycopy(source.places, place, target.places, at, many);
        return many;
    }

    public int lay(int slot, int thing, int k) {
        if (!within(slot, SLOTS) || thing < EMPTY || thing > HOLDS_NUMBER) return BAD;
        if (thing == HOLDS_LADDER && !within(k, now.ladders)) return BAD;
        if (thing == HOLDS_SHEET && !within(k, SHEETS)) return BAD;
        if (thing == HOLDS_SHEET && sheets[k].sort == MISSING) return NOTHING;
        if (thing == HOLDS_LADDER) {
            slotKind[slot] = now.kind[k];
            slotNumber[slot] = now.length[k];
        } else if (thing == HOLDS_SHEET) {
            slotSheet[slot].becomeAs(sheets[k]);
        } else {
            slotNumber[slot] = k;
        }
        return exchange(slotThing, slot, thing);
    }

    public int ask(int slot, int kind) {
        if (!within(slot, SLOTS) || !within(kind, KINDS)) return BAD;
        int finding = findingOf(slot, HOLDS_LADDER);
        if (finding != 0) return finding;
        LadderKind held = kinds[slotKind[slot]];
        return held.isKind(kind) ? held.worth(slotNumber[slot]) : KIND;
    }

    public int item(int slot, int place) {
        if (!within(slot, SLOTS)) return BAD;
        int finding = findingOf(slot, HOLDS_SHEET);
        if (finding != 0) return finding;
        Sheet held = slotSheet[slot];
        if (!within(place, held.size)) return INDEX;
        return held.places[place] == NONE ? KIND : held.places[place];
    }

    public int rest(int slot, int n) {
        if (!within(slot, SLOTS)) return BAD;
        int finding = findingOf(slot, HOLDS_NUMBER);
        if (finding != 0) return finding;
        return n == 0 ? NO : slotNumber[slot] % n;
    }

    // ---- rows, images

    public int tell(int v) {
        if (waits >= MOST_WAITING) return FULL;
        waiting[waits] = v;
        waits++;
        return waits;
    }

    public int check(int n) {
        int told = waits;
        waits = 0;
        if (n < 1 || n > MOST_NIGHTS) return BAD;
        if (!imageKept) return NO;
        trial.becomeAs(image);
        ways.look(trial);
        for (int i = 0; i < n; i++) {
            trial.night(ways.reaches);
            ways.leanAsNow();
            int first = 2 * i;
            if (!isTold(first, told, Integer.bitCount(ways.standing()))) return 1 + first;
            if (!isTold(first + 1, told, ways.groundCount())) return 2 + first;
        }
        return told > 2 * n ? 1 + 2 * n : 0;
    }

    public int keep() {
        image.becomeAs(now);
        imageKept = true;
        return now.ladders;
    }

    public int back() {
        if (!imageKept) return NO;
        now.becomeAs(image);
        return now.ladders;
    }

    public int count(int what) {
        switch (what) {
            case 0: return now.ledges;
            case 1: return now.ladders;
            case 2: return now.people;
            case 3: return now.day;
            case 4: return now.standingCount();
            case 5: return Integer.bitCount(now.moved);
            case 6: return now.textCount;
            case 7: return waits;
            case 8: return reader.bytes;
            case 9: return now.z;
            default: return BAD;
        }
    }

    private static boolean within(int v, int bound) {
        return v >= 0 && v < bound;
    }

    private static boolean isLength(int v) {
        return v >= 1 && v <= MOST_LENGTH;
    }

    private static boolean has(int bits, int k) {
        return (bits >>> k & 1) != 0;
    }

    private static int exchange(int[] row, int i, int v) {
        int was = row[i];
        row[i] = v;
        return was;
    }

    private int findingOf(int slot, int thing) {
        if (slotThing[slot] == EMPTY) return NOTHING;
        return slotThing[slot] == thing ? 0 : KIND;
    }

    private boolean isTold(int i, int told, int v) {
        return i < told && i < MOST_WAITING && waiting[i] == v;
    }

    // ---- the kinds, each under the one that it extends; they hold nothing, so all ladders share them

    private static class LadderKind {
        boolean isKind(int kind) {
            return kind == 0;
        }

        int reach(int length) {
            return length;
        }

        int minutes(int rise) {
            return rise / 5 + 1;
        }

        int worth(int length) {
            return length;
        }

        boolean letsMove(boolean strongEnough, boolean helped) {
            return strongEnough;
        }
    }

    private static class RopeKind extends LadderKind {
        boolean isKind(int kind) {
            return kind == 1 || super.isKind(kind);
        }

        int reach(int length) {
            return super.reach(length) + 3;
        }

        int minutes(int rise) {
            return 2 * super.minutes(rise);
        }

        int worth(int length) {
            return super.worth(length) - 4;
        }

        boolean letsMove(boolean strongEnough, boolean helped) {
            return true;
        }
    }

    private static class HeavyKind extends LadderKind {
        boolean isKind(int kind) {
            return kind == 2 || super.isKind(kind);
        }

        int minutes(int rise) {
            return super.minutes(rise) + 1;
        }

        int worth(int length) {
            return super.worth(length) + 9;
        }

        boolean letsMove(boolean strongEnough, boolean helped) {
            return super.letsMove(strongEnough, helped) && helped;
        }
    }

    private static final class ChainKind extends RopeKind {
        boolean isKind(int kind) {
            return kind == 3 || super.isKind(kind);
        }

        int reach(int length) {
            return super.reach(length) + length / 4;
        }

        int minutes(int rise) {
            return super.minutes(rise) - 1;
        }

        int worth(int length) {
            return 2 * super.worth(length);
        }
    }

    private static final class IronKind extends HeavyKind {
        boolean isKind(int kind) {
            return kind == 4 || super.isKind(kind);
        }

        int reach(int length) {
            return Math.max(0, super.reach(length) - 2);
        }

        int worth(int length) {
            return super.worth(length) + 20;
        }
    }

    private static final class FoldedKind extends LadderKind {
        boolean isKind(int kind) {
            return kind == 5 || super.isKind(kind);
        }

        int reach(int length) {
            return super.reach(length) / 2;
        }

        int worth(int length) {
            return 40 - length;
        }

        boolean letsMove(boolean strongEnough, boolean helped) {
            return true;
        }
    }

    /** All that an image keeps. Who calls has looked at the numbers of ledges, ladders and people. */
    private static final class Town {
        final LadderKind[] kinds;
        int ledges = 0;
        final int[] height = new int[MOST_LEDGES];
        final int[] place = new int[MOST_LEDGES];
        int ladders = 0;
        final int[] kind = new int[MOST_LADDERS];
        final int[] length = new int[MOST_LADDERS];
        final int[] foot = new int[MOST_LADDERS];
        final int[] top = new int[MOST_LADDERS];
        int moved = 0;
        int people = 0;
        final int[] spot = new int[MOST_PEOPLE];
        final int[] strength = new int[MOST_PEOPLE];
        int day = 0;
        int thieves = 20;
        int z = 1;
        int textCount = 0;
        final Text[] texts = new Text[MOST_TEXTS];
        final int[] lastOfKey = {-1, -1, -1};
        // Texts are worked out here, so that no call needs a new row.
        final int[] stack = new int[MOST_BYTES];

        Town(LadderKind[] kinds) {
            this.kinds = kinds;
        }

        void becomeAs(Town other) {
            ledges = other.ledges;
            copyRow(other.height, height);
            copyRow(other.place, place);
            ladders = other.ladders;
            copyRow(other.kind, kind);
            copyRow(other.length, length);
            copyRow(other.foot, foot);
            copyRow(other.top, top);
            moved = other.moved;
            people = other.people;
            copyRow(other.spot, spot);
            copyRow(other.strength, strength);
            day = other.day;
            thieves = other.thieves;
            z = other.z;
            textCount = other.textCount;
            // Texts never change, so towns may share them.
            for (int i = 0; i < MOST_TEXTS; i++) texts[i] = other.texts[i];
            copyRow(other.lastOfKey, lastOfKey);
        }

        private static void copyRow(int[] from, int[] to) {
            System.arraycopy(from, 0, to, 0, Math.min(from.length, to.length));
        }

        int addLedge(int newHeight, int newPlace) {
            height[ledges] = newHeight;
            place[ledges] = newPlace;
            ledges++;
            return ledges - 1;
        }

        int addLadder(int newKind, int newLength, int newFoot, int newTop) {
            kind[ladders] = newKind;
            length[ladders] = newLength;
            foot[ladders] = newFoot;
            top[ladders] = newTop;
            ladders++;
            return ladders - 1;
        }

        int addPerson(int ledge, int newStrength) {
            spot[people] = ledge;
            strength[people] = newStrength;
            people++;
            return people - 1;
        }

        int addText(Text told) {
            texts[textCount] = told;
            lastOfKey[told.key] = textCount;
            textCount++;
            return textCount - 1;
        }

        int draw() {
            z = z * 1103515245 + 12345;
            return z >>> 8;
        }

        /** What the text that counts for a key gives, or without one what is given by itself. */
        private int given(int key, int first, int second, int third, int withoutText) {
            int last = lastOfKey[key];
            if (!within(last, textCount)) return withoutText;
            Text law = texts[last];
            return law == null ? withoutText : law.gives(first, second, third, stack);
        }

        int tollOf(int minutes, int count) {
            return given(TOLL, minutes, count, 0, minutes);
        }

        int lengthBetween(int one, int other) {
            int higher = Math.abs(height[one] - height[other]);
            int apart = Math.abs(place[one] - place[other]);
            int given = given(LEAN, higher, apart, 0, higher + apart);
            return Math.max(0, Math.min(MOST_NEEDED, given));
        }

        int reachOf(int ladder) {
            return kinds[kind[ladder]].reach(length[ladder]);
        }

        int minutesOf(int ladder) {
            int rise = Math.max(0, height[top[ladder]] - height[foot[ladder]]);
            return kinds[kind[ladder]].minutes(rise);
        }

        boolean inReach(int ladder, int ledge) {
            int from = foot[ladder];
            return height[ledge] > height[from] && lengthBetween(from, ledge) <= reachOf(ladder);
        }

        boolean standsNow(int ladder) {
            return inReach(ladder, top[ladder]);
        }

        int ledgesInReach(int ladder) {
            int set = 0;
            for (int i = 0; i < ledges; i++) {
                if (inReach(ladder, i)) set |= 1 << i;
            }
            return set;
        }

        int standingCount() {
            int count = 0;
            for (int i = 0; i < ladders; i++) {
                if (standsNow(i)) count++;
            }
            return count;
        }

        int laddersFrom(int ledge) {
            int set = 0;
            for (int i = 0; i < ladders; i++) {
                if (foot[i] == ledge) set |= 1 << i;
            }
            return set;
        }

        int peopleOn(int ledge) {
            int count = 0;
            for (int i = 0; i < people; i++) {
                if (spot[i] == ledge) count++;
            }
            return count;
        }

        private boolean othersOn(int ledge, int person) {
            return peopleOn(ledge) > (spot[person] == ledge ? 1 : 0);
        }

        boolean canMove(int person, int ladder) {
            return spot[person] == foot[ladder] && canMoveFromFoot(person, ladder);
        }

        /** Whether one could move a ladder, were it on its foot. */
        private boolean canMoveFromFoot(int person, int ladder) {
            if (has(moved, ladder)) return false;
            int plain = strength[person] >= length[ladder] ? 1 : 0;
            boolean strongEnough = given(MOVE, strength[person], length[ladder], day, plain) != 0;
            return kinds[kind[ladder]].letsMove(strongEnough, othersOn(foot[ladder], person));
        }

        int movableFromFoot(int person) {
            int set = 0;
            for (int i = 0; i < ladders; i++) {
                if (canMoveFromFoot(person, i)) set |= 1 << i;
            }
            return set;
        }

        /** A night, with the ledges that each ladder reaches as sets: how many came to another top. */
        int night(int[] reaches) {
            moved = 0;
            int came = 0;
            for (int i = 0; i < ladders; i++) {
                if (draw() % 100 >= thieves) continue;
                int next = nextTop(top[i], reaches[i]);
                if (next != top[i]) came++;
                top[i] = next;
            }
            day++;
            return came;
        }

        private int nextTop(int from, int reached) {
            for (int i = from + 1; i < ledges; i++) {
                if (has(reached, i)) return i;
            }
            for (int i = 0; i < from; i++) {
                if (has(reached, i)) return i;
            }
            return from;
        }
    }

    /** Ways in a town that was looked at, with ladders leaning as there or at tops that are only tried. */
    private static final class Ways {
        // A way's measure is its minutes times this, and its ladders: the least measure has the least
        // minutes and of those the fewest ladders, as a least way has at most 8 ladders.
        private static final int MINUTE = 16;
        private static final int FAR = 1000000;
        private static final int ALL = -1;

        private Town town;
        final int[] reaches = new int[MOST_LADDERS];
        private final int[] tops = new int[MOST_LADDERS];
        private final int[] measure = new int[MOST_LEDGES];

        Ways(Town town) {
            this.town = town;
        }

        void look(Town at) {
            town = at;
            for (int i = 0; i < at.ladders; i++) reaches[i] = at.ledgesInReach(i);
            leanAsNow();
        }

        void leanAsNow() {
            for (int i = 0; i < town.ladders; i++) tops[i] = town.top[i];
        }

        int standing() {
            int set = 0;
            for (int i = 0; i < town.ladders; i++) {
                if (has(reaches[i], tops[i])) set |= 1 << i;
            }
            return set;
        }

        int reachedFrom(int from) {
            return reachedBy(from, ALL);
        }

        int reachedWithout(int ladder, int from) {
            return reachedBy(from, ~(1 << ladder));
        }

        private int reachedBy(int from, int allowed) {
            int used = standing() & allowed;
            int set = 1 << from;
            for (int round = 0; round < town.ladders; round++) {
                int before = set;
                for (int i = 0; i < town.ladders; i++) {
                    int ends = 1 << town.foot[i] | 1 << tops[i];
                    if (has(used, i) && (set & ends) != 0) set |= ends;
                }
                if (set == before) break;
            }
            return set;
        }

        int groundCount() {
            return town.ledges == 0 ? 0 : Integer.bitCount(reachedFrom(0));
        }

        int reachedIfMoved(int ladder, int ledge) {
            int old = tops[ladder];
            tops[ladder] = ledge;
            int count = groundCount();
            tops[ladder] = old;
            return count;
        }

        void measureFrom(int from) {
            Arrays.fill(measure, FAR);
            measure[from] = 0;
            int used = standing();
            for (int round = 0; round < town.ledges; round++) {
                boolean nearer = false;
                for (int i = 0; i < town.ladders; i++) {
                    if (has(used, i) && shorten(town.foot[i], tops[i], town.minutesOf(i) * MINUTE + 1)) nearer = true;
                }
                if (!nearer) break;
            }
        }

        private boolean shorten(int one, int other, int by) {
            if (measure[one] + by < measure[other]) {
                measure[other] = measure[one] + by;
                return true;
            }
            if (measure[other] + by < measure[one]) {
                measure[one] = measure[other] + by;
                return true;
            }
            return false;
        }

        boolean measured(int to) {
            return measure[to] < FAR;
        }

        int minutesTo(int to) {
            return measured(to) ? measure[to] / MINUTE : NO_WAY_MINUTES;
        }

        int laddersTo(int to) {
            return measure[to] % MINUTE;
        }

        /** The minutes of all people together to a ledge; -1 if there are not ways for all. */
        int minutesOfAllTo(int ledge) {
            measureFrom(ledge);
            int sum = 0;
            for (int i = 0; i < town.people; i++) {
                if (!measured(town.spot[i])) return -1;
                sum += minutesTo(town.spot[i]);
            }
            return sum;
        }

        // A sheet may have places for which there is no ledge: to those there is no way, but they count too.
        int differenceFrom(int ledge, Sheet sheet) {
            measureFrom(ledge);
            int sum = 0;
            for (int i = 0; i < sheet.size; i++) {
                if (sheet.places[i] == NONE) continue;
                int minutes = i < town.ledges ? minutesTo(i) : NO_WAY_MINUTES;
                sum += Math.abs(minutes - sheet.places[i]);
            }
            return sum;
        }

        int fewestMoves(int from, int to, int movable) {
            for (int moves = 0; moves <= MOST_MOVES; moves++) {
                if (arrives(from, to, moves, movable)) return moves;
            }
            return NONE;
        }

        /** Whether one gets to a ledge by so many moves at most, each of another one of the movable ladders. */
        private boolean arrives(int from, int to, int moves, int movable) {
            int set = reachedFrom(from);
            if (has(set, to)) return true;
            if (moves < 1) return false;
            for (int i = 0; i < town.ladders; i++) {
                if (!has(movable, i) || !has(set, town.foot[i])) continue;
                if (moves == 1 ? lastMoveArrives(i, to) : moveArrives(i, to, moves, movable)) return true;
            }
            return false;
        }

        // Without the moved ladder its foot and the goal are apart, so that the way goes up it at once: it
        // is enough to know from which tops the goal is reached, and no top needs to be tried.
        private boolean lastMoveArrives(int ladder, int to) {
            int others = reaches[ladder] & ~(1 << tops[ladder]);
            return (others & reachedBy(to, ~(1 << ladder))) != 0;
        }

        private boolean moveArrives(int ladder, int to, int moves, int movable) {
            int old = tops[ladder];
            boolean found = false;
            for (int i = 0; i < town.ledges && !found; i++) {
                if (i == old || !has(reaches[ladder], i)) continue;
                tops[ladder] = i;
                found = arrives(town.foot[ladder], to, moves - 1, movable & ~(1 << ladder));
            }
            tops[ladder] = old;
            return found;
        }
    }

    /** A law as it was read; its code has operands ahead of their sign. */
    private static final class Text {
        // Below it a code is a number, from it on a name by its place; a sign's code is below 0.
        static final int NAME_CODE = 10000;

        final int key;
        final int operands;
        private final int[] code;

        Text(int key, int operands, int[] code) {
            this.key = key;
            this.operands = operands;
            this.code = code;
        }

        int gives(int first, int second, int third, int[] stack) {
            int depth = 0;
            for (int i = 0; i < code.length; i++) {
                if (code[i] >= 0) {
                    if (depth >= stack.length) return 0;
                    stack[depth] = code[i] < NAME_CODE ? code[i] : named(code[i] - NAME_CODE, first, second, third);
                    depth++;
                } else if (code[i] == -'!') {
                    if (depth < 1) return 0;
                    stack[depth - 1] = stack[depth - 1] == 0 ? 1 : 0;
                } else {
                    if (depth < 2) return 0;
                    depth--;
                    stack[depth - 1] = joined(-code[i], stack[depth - 1], stack[depth]);
                }
            }
            return depth > 0 ? stack[0] : 0;
        }

        private static int named(int place, int first, int second, int third) {
            return place == 0 ? first : place == 1 ? second : third;
        }

        private static int joined(int sign, int a, int b) {
            switch (sign) {
                case '+': return a + b;
                case '-': return a - b;
                case '*': return a * b;
                case '/': return b == 0 ? 0 : a / b;
                case '<': return a < b ? 1 : 0;
                case '=': return a == b ? 1 : 0;
                case '>': return a > b ? 1 : 0;
                case '&': return a != 0 && b != 0 ? 1 : 0;
                case '|': return a != 0 || b != 0 ? 1 : 0;
                default: return 0;
            }
        }
    }

    /** The tape, and what reads it: signs wait on a stack until those that bind tighter have been put out. */
    private static final class Reader {
        private static final int COMPARING = 3;

        private final int[] tape = new int[MOST_BYTES];
        int bytes = 0;
        // How far the tape was read; behind a fault, its place.
        int at = 0;
        private int end = 0;
        private int key = -1;
        private int keyEnd = -1;
        private boolean operandDue = true;
        private final int[] code = new int[MOST_BYTES];
        private int codes = 0;
        private int operands = 0;
        private final int[] signs = new int[MOST_BYTES];
        private int waitingSigns = 0;
        private int openBrackets = 0;
        private int openNots = 0;

        void take(int number) {
            for (int shift = 24; shift >= 0 && bytes < MOST_BYTES; shift -= 8) {
                tape[bytes] = number >>> shift & 255;
                bytes++;
            }
        }

        /** Uses up the tape: its text, or null with the place of the fault in at. */
        Text readText() {
            end = bytes;
            bytes = 0;
            at = 0;
            operandDue = true;
            codes = 0;
            operands = 0;
            waitingSigns = 0;
            openBrackets = 0;
            openNots = 0;
            if (!readKey() || !readLaw()) return null;
            return new Text(key, operands, Arrays.copyOf(code, codes));
        }

        private void skipBlanks() {
            while (at < end && tape[at] == ' ') at++;
        }

        private static boolean isLetter(int sign) {
            return sign >= 'a' && sign <= 'z';
        }

        private static boolean isDigit(int sign) {
            return sign >= '0' && sign <= '9';
        }

        private int wordEnd() {
            int i = at;
            if (isLetter(tape[at])) {
                while (i < end && isLetter(tape[i])) i++;
            } else {
                while (i < end && isDigit(tape[i])) i++;
            }
            return i;
        }

        private static String keyWord(int key) {
            return key == LEAN ? "lean" : key == MOVE ? "move" : "toll";
        }

        private static String namesOf(int key) {
            return key == LEAN ? "hp" : key == MOVE ? "sld" : "mn";
        }

        private boolean isWord(String word, int wordEnd) {
            if (wordEnd - at != word.length()) return false;
            for (int i = 0; i < word.length(); i++) {
                if (tape[at + i] != word.charAt(i)) return false;
            }
            return true;
        }

        private boolean readKey() {
            skipBlanks();
            if (at >= end) return false;
            keyEnd = wordEnd();
            for (int i = 0; i < KEYS; i++) {
                if (isWord(keyWord(i), keyEnd)) {
                    key = i;
                    at = keyEnd;
                    return true;
                }
            }
            return false;
        }

        private boolean readLaw() {
            skipBlanks();
            for (int words = 0; words < MOST_BYTES && at < end; words++) {
                if (!(operandDue ? readTowardsOperand() : readBehindOperand())) return false;
                skipBlanks();
            }
            if (operandDue || openBrackets > 0) return false;
            putOutSigns(1);
            return true;
        }

        private boolean readTowardsOperand() {
            int sign = tape[at];
            if (isDigit(sign)) return readNumber();
            if (isLetter(sign)) return readName();
            if (sign == '!' && openNots < MOST_NESTED) {
                openNots++;
            } else if (sign == '(' && openBrackets < MOST_NESTED) {
                openBrackets++;
            } else {
                return false;
            }
            pushSign(sign);
            return true;
        }

        private boolean readNumber() {
            int numberEnd = wordEnd();
            if (at == keyEnd || numberEnd - at > MOST_DIGITS) return false;
            int value = 0;
            for (int i = at; i < numberEnd; i++) value = value * 10 + tape[i] - '0';
            at = numberEnd;
            putOperand(value);
            return true;
        }

        private boolean readName() {
            if (wordEnd() - at != 1) return false;
            int place = namesOf(key).indexOf((char) tape[at]);
            if (place < 0) return false;
            at++;
            putOperand(Text.NAME_CODE + place);
            return true;
        }

        private void putOperand(int operand) {
            operands++;
            putOut(operand);
            closePiece();
        }

        private void putOut(int one) {
            if (codes >= MOST_BYTES) return;
            code[codes] = one;
            codes++;
        }

        private void pushSign(int sign) {
            if (waitingSigns < MOST_BYTES) {
                signs[waitingSigns] = sign;
                waitingSigns++;
            }
            at++;
        }

        private int topSign() {
            return waitingSigns > 0 ? signs[waitingSigns - 1] : 0;
        }

        // A piece is whole, and with it each ! right ahead of it.
        private void closePiece() {
            while (waitingSigns > 0 && topSign() == '!') {
                putOut(-'!');
                waitingSigns--;
                openNots--;
            }
            operandDue = false;
        }

        private boolean readBehindOperand() {
            int sign = tape[at];
            if (sign == ')') return readClosing();
            int rank = rankOf(sign);
            if (rank == 0) return false;
            putOutSigns(rank == COMPARING ? rank + 1 : rank);
            // A test has one comparison at most.
            if (rank == COMPARING && rankOf(topSign()) == COMPARING) return false;
            pushSign(sign);
            operandDue = true;
            return true;
        }

        private boolean readClosing() {
            if (openBrackets == 0) return false;
            putOutSigns(1);
            if (topSign() == '(') waitingSigns--;
            openBrackets--;
            at++;
            closePiece();
            return true;
        }

        // Brackets have no rank and stop it.
        private void putOutSigns(int leastRank) {
            while (waitingSigns > 0 && rankOf(topSign()) >= leastRank) {
                putOut(-topSign());
                waitingSigns--;
            }
        }

        /** How tightly a sign between two operands binds; 0 for others. */
        private static int rankOf(int sign) {
            switch (sign) {
                case '|': return 1;
                case '&': return 2;
                case '<':
                case '=':
                case '>': return COMPARING;
                case '+':
                case '-': return 4;
                case '*':
                case '/': return 5;
                default: return 0;
            }
        }
    }

    /** A row of places; NONE in a place of floats is no number. Whole floats of at most 5 digits are held as ints. */
    private static final class Sheet {
        int sort = MISSING;
        int size = 0;
        final int[] places = new int[MOST_PLACES];

        void become(int newSort, int newSize) {
            sort = newSort;
            size = newSize;
            Arrays.fill(places, 0);
        }

        void becomeAs(Sheet other) {
            sort = other.sort;
            size = other.size;
            System.arraycopy(other.places, 0, places, 0, MOST_PLACES);
        }

        boolean hasPlaces(int from, int many) {
            return from >= 0 && many >= 0 && from <= size - many;
        }
    }
}
