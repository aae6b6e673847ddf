import java.util.ArrayList;
import java.util.Arrays;
import java.util.List;

/**
 * A second way to do what the document says, plainer and slower: it goes through every way there is, copies
 * whole towns to try moves, and reads texts by going down the grammar.
 */
final class SlowTown {
    static final int BAD = -1000000001, NO = -1000000002, FULL = -1000000003, NONE = -1000000005;
    static final int NOTHING = -1000000011, KIND = -1000000012, INDEX = -1000000013, SIZE = -1000000014;
    private static final int[] ABOVE = {-1, 0, 0, 1, 2, 0};

    private record Ledge(int height, int place) { }
    private record Person(int ledge, int strength) { }
    private record Ladder(int kind, int length, int foot, int top, boolean moved) { }
    private record Law(int key, Node root) { }
    private record Node(char sign, int value, List<Node> parts) { }
    private record Slot(int thing, Ladder ladder, Float[] floats, Short[] shorts, int number) { }

    private static final class State {
        final List<Ledge> ledges = new ArrayList<>();
        final List<Ladder> ladders = new ArrayList<>();
        final List<Person> people = new ArrayList<>();
        final List<Law> laws = new ArrayList<>();
        int day = 0;
        int thieves = 20;
        int z = 1;

        State copied() {
            State s = new State();
            s.ledges.addAll(ledges);
            s.ladders.addAll(ladders);
            s.people.addAll(people);
            s.laws.addAll(laws);
            s.day = day;
            s.thieves = thieves;
            s.z = z;
            return s;
        }

        int draw() {
            z = z * 1103515245 + 12345;
            return z >>> 8;
        }

        int lastLaw(int key) {
            int last = NONE;
            for (int i = 0; i < laws.size(); i++) if (laws.get(i).key == key) last = i;
            return last;
        }

        int needs(int a, int b) {
            Ledge one = ledges.get(a);
            Ledge other = ledges.get(b);
            int h = one.height > other.height ? one.height - other.height : other.height - one.height;
            int p = one.place > other.place ? one.place - other.place : other.place - one.place;
            int law = lastLaw(0);
            int v = law == NONE ? h + p : value(laws.get(law).root, h, p, 0);
            return v < 0 ? 0 : v > 999 ? 999 : v;
        }

        int reach(int kind, int length) {
            return switch (kind) {
                case 0 -> length;
                case 1 -> reach(0, length) + 3;
                case 3 -> reach(1, length) + length / 4;
                case 4 -> Math.max(0, reach(2, length) - 2);
                case 5 -> reach(0, length) / 2;
                default -> reach(ABOVE[kind], length);
            };
        }

        int minutes(int kind, int rise) {
            return switch (kind) {
                case 0 -> rise / 5 + 1;
                case 1 -> 2 * minutes(0, rise);
                case 2 -> minutes(0, rise) + 1;
                case 3 -> minutes(1, rise) - 1;
                default -> minutes(ABOVE[kind], rise);
            };
        }

        boolean lets(int kind, boolean law, boolean helped) {
            return switch (kind) {
                case 0 -> law;
                case 1, 5 -> true;
                case 2 -> lets(0, law, helped) && helped;
                default -> lets(ABOVE[kind], law, helped);
            };
        }

        int minutes(Ladder l) {
            return minutes(l.kind, Math.max(0, ledges.get(l.top).height - ledges.get(l.foot).height));
        }

        boolean reaches(Ladder l, int ledge) {
            if (ledges.get(ledge).height <= ledges.get(l.foot).height) return false;
            return needs(l.foot, ledge) <= reach(l.kind, l.length);
        }

        boolean stands(Ladder l) {
            return reaches(l, l.top);
        }

        boolean may(int person, int ladder) {
            Ladder l = ladders.get(ladder);
            Person p = people.get(person);
            if (p.ledge != l.foot || l.moved) return false;
            boolean helped = false;
            for (int i = 0; i < people.size(); i++) if (i != person && people.get(i).ledge == l.foot) helped = true;
            int last = lastLaw(1);
            boolean law = last == NONE ? p.strength >= l.length
                : value(laws.get(last).root, p.strength, l.length, day) != 0;
            return lets(l.kind, law, helped);
        }

        void lean(int ladder, int top, boolean moved) {
            Ladder l = ladders.get(ladder);
            ladders.set(ladder, new Ladder(l.kind, l.length, l.foot, top, moved));
        }

        void put(int person, int ledge) {
            people.set(person, new Person(ledge, people.get(person).strength));
        }

        /** The least minutes and the fewest ladders of them; null without a way. Goes through all ways. */
        int[] best(int from, int to, int without) {
            boolean[] standing = new boolean[ladders.size()];
            for (int i = 0; i < standing.length; i++) standing[i] = i != without && stands(ladders.get(i));
            int[] best = {Integer.MAX_VALUE, 0};
            walk(from, to, 0, 0, standing, new boolean[ledges.size()], best);
            return best[0] == Integer.MAX_VALUE ? null : best;
        }

        private void walk(int at, int to, int took, int used, boolean[] standing, boolean[] seen, int[] best) {
            if (at == to) {
                if (took < best[0] || took == best[0] && used < best[1]) {
                    best[0] = took;
                    best[1] = used;
                }
                return;
            }
            seen[at] = true;
            for (int i = 0; i < standing.length; i++) {
                Ladder l = ladders.get(i);
                if (!standing[i] || l.foot != at && l.top != at) continue;
                int next = l.foot == at ? l.top : l.foot;
                if (!seen[next]) walk(next, to, took + minutes(l), used + 1, standing, seen, best);
            }
            seen[at] = false;
        }

        int reached(int from) {
            int set = 0;
            for (int i = 0; i < ledges.size(); i++) if (best(from, i, -1) != null) set |= 1 << i;
            return set;
        }

        boolean gets(int person, int to, int moves) {
            int here = reached(people.get(person).ledge);
            if ((here >> to & 1) == 1) return true;
            if (moves == 0) return false;
            for (int i = 0; i < ladders.size(); i++) {
                Ladder l = ladders.get(i);
                if ((here >> l.foot & 1) == 0) continue;
                State there = copied();
                there.put(person, l.foot);
                if (!there.may(person, i)) continue;
                for (int top = 0; top < ledges.size(); top++) {
                    if (top == l.top || !reaches(l, top)) continue;
                    State then = there.copied();
                    then.lean(i, top, true);
                    if (then.gets(person, to, moves - 1)) return true;
                }
            }
            return false;
        }

        int night() {
            int came = 0;
            for (int i = 0; i < ladders.size(); i++) lean(i, ladders.get(i).top, false);
            for (int i = 0; i < ladders.size(); i++) {
                if (draw() % 100 >= thieves) continue;
                Ladder l = ladders.get(i);
                for (int k = 1; k < ledges.size(); k++) {
                    int next = (l.top + k) % ledges.size();
                    if (!reaches(l, next)) continue;
                    lean(i, next, false);
                    came++;
                    break;
                }
            }
            day++;
            return came;
        }
    }

    private State s = new State();
    private State image = null;
    private List<Integer> tape = new ArrayList<>();
    private List<Integer> waiting = new ArrayList<>();
    private final Float[][] floats = new Float[4][];
    private final Short[][] shorts = new Short[4][];
    private final Slot[] slots = new Slot[5];

    private boolean noLedge(int k) {
        return k < 0 || k >= s.ledges.size();
    }

    private boolean noLadder(int k) {
        return k < 0 || k >= s.ladders.size();
    }

    private boolean noPerson(int k) {
        return k < 0 || k >= s.people.size();
    }

    private static boolean isKind(int kind, int asked) {
        for (int k = kind; k >= 0; k = ABOVE[k]) if (k == asked) return true;
        return false;
    }

    private static int worth(int kind, int length) {
        return switch (kind) {
            case 0 -> length;
            case 1 -> worth(0, length) - 4;
            case 2 -> worth(0, length) + 9;
            case 3 -> 2 * worth(1, length);
            case 4 -> worth(2, length) + 20;
            default -> 40 - length;
        };
    }

    int ledge(int height, int place) {
        if (height < 0 || height > 99 || place < 0 || place > 29) return BAD;
        if (s.ledges.size() == 10) return FULL;
        s.ledges.add(new Ledge(height, place));
        return s.ledges.size() - 1;
    }

    int ledgeTold(int ledge, int what) {
        if (noLedge(ledge) || what < 0 || what > 3) return BAD;
        if (what == 0) return s.ledges.get(ledge).height;
        if (what == 1) return s.ledges.get(ledge).place;
        int count = 0;
        int set = 0;
        for (Person p : s.people) if (p.ledge == ledge) count++;
        for (int i = 0; i < s.ladders.size(); i++) if (s.ladders.get(i).foot == ledge) set |= 1 << i;
        return what == 2 ? count : set;
    }

    int change(int ledge, int what, int v) {
        if (noLedge(ledge) || what < 0 || what > 1 || v < 0 || v > (what == 0 ? 99 : 29)) return BAD;
        Ledge was = s.ledges.get(ledge);
        s.ledges.set(ledge, what == 0 ? new Ledge(v, was.place) : new Ledge(was.height, v));
        return what == 0 ? was.height : was.place;
    }

    int deal(int n) {
        if (n < 1 || n > 10) return BAD;
        int came = 0;
        while (came < n && s.ledges.size() < 10) {
            int height = s.draw() % 100;
            int place = s.draw() % 30;
            s.ledges.add(new Ledge(height, place));
            came++;
        }
        return came;
    }

    int seed(int v) {
        int was = s.z;
        s.z = v;
        return was;
    }

    int ladder(int kind, int length, int foot, int top) {
        if (kind < 0 || kind > 5 || length < 1 || length > 99 || noLedge(foot) || noLedge(top) || foot == top) return BAD;
        if (s.ladders.size() == 8) return FULL;
        s.ladders.add(new Ladder(kind, length, foot, top, false));
        return s.ladders.size() - 1;
    }

    int told(int ladder, int what) {
        if (noLadder(ladder) || what < 0 || what > 9) return BAD;
        Ladder l = s.ladders.get(ladder);
        int set = 0;
        for (int i = 0; i < s.ledges.size(); i++) if (s.reaches(l, i)) set |= 1 << i;
        return switch (what) {
            case 0 -> l.kind;
            case 1 -> l.length;
            case 2 -> l.foot;
            case 3 -> l.top;
            case 4 -> s.reach(l.kind, l.length);
            case 5 -> s.minutes(l);
            case 6 -> s.stands(l) ? 1 : 0;
            case 7 -> l.moved ? 1 : 0;
            case 8 -> worth(l.kind, l.length);
            default -> set;
        };
    }

    int as(int ladder, int kind) {
        if (noLadder(ladder) || kind < 0 || kind > 5) return BAD;
        return isKind(s.ladders.get(ladder).kind, kind) ? s.ladders.get(ladder).length : KIND;
    }

    int turns(int ladder, int kind) {
        if (noLadder(ladder) || kind < 0 || kind > 5) return BAD;
        Ladder l = s.ladders.get(ladder);
        s.ladders.set(ladder, new Ladder(kind, l.length, l.foot, l.top, l.moved));
        return l.kind;
    }

    int cut(int ladder, int v) {
        if (noLadder(ladder) || v < 1 || v > 99) return BAD;
        Ladder l = s.ladders.get(ladder);
        s.ladders.set(ladder, new Ladder(l.kind, v, l.foot, l.top, l.moved));
        return l.length;
    }

    int needs(int one, int other) {
        return noLedge(one) || noLedge(other) || one == other ? BAD : s.needs(one, other);
    }

    int person(int ledge, int strength) {
        if (noLedge(ledge) || strength < 0 || strength > 99) return BAD;
        if (s.people.size() == 6) return FULL;
        s.people.add(new Person(ledge, strength));
        return s.people.size() - 1;
    }

    int personTold(int person, int what) {
        if (noPerson(person) || what < 0 || what > 1) return BAD;
        return what == 0 ? s.people.get(person).ledge : s.people.get(person).strength;
    }

    int set(int person, int what, int v) {
        if (noPerson(person) || what < 0 || what > 1 || (what == 0 ? noLedge(v) : v < 0 || v > 99)) return BAD;
        Person was = s.people.get(person);
        s.people.set(person, what == 0 ? new Person(v, was.strength) : new Person(was.ledge, v));
        return what == 0 ? was.ledge : was.strength;
    }

    int may(int person, int ladder) {
        if (noPerson(person) || noLadder(ladder)) return BAD;
        return s.may(person, ladder) ? 1 : 0;
    }

    int move(int person, int ladder, int top) {
        if (noPerson(person) || noLadder(ladder) || noLedge(top)) return BAD;
        Ladder l = s.ladders.get(ladder);
        if (!s.may(person, ladder) || l.top == top || !s.reaches(l, top)) return NO;
        s.lean(ladder, top, true);
        return l.top;
    }

    int climb(int person, int ladder) {
        if (noPerson(person) || noLadder(ladder)) return BAD;
        Ladder l = s.ladders.get(ladder);
        int at = s.people.get(person).ledge;
        if (!s.stands(l) || at != l.foot && at != l.top) return NO;
        s.put(person, at == l.foot ? l.top : l.foot);
        return s.minutes(l);
    }

    int thieves(int v) {
        if (v < 0 || v > 100) return BAD;
        int was = s.thieves;
        s.thieves = v;
        return was;
    }

    int nights(int n) {
        if (n < 1 || n > 30) return BAD;
        int came = 0;
        for (int i = 0; i < n; i++) came += s.night();
        return came;
    }

    int way(int from, int to, int what) {
        if (noLedge(from) || noLedge(to) || what < 0 || what > 2) return BAD;
        int[] best = s.best(from, to, -1);
        if (best == null) return NONE;
        if (what < 2) return best[what];
        int law = s.lastLaw(2);
        return law == NONE ? best[0] : value(s.laws.get(law).root, best[0], best[1], 0);
    }

    int reached(int from) {
        return noLedge(from) ? BAD : s.reached(from);
    }

    int needed(int from, int to) {
        if (noLedge(from) || noLedge(to)) return BAD;
        if (s.best(from, to, -1) == null) return NONE;
        int set = 0;
        for (int i = 0; i < s.ladders.size(); i++) if (s.best(from, to, i) == null) set |= 1 << i;
        return set;
    }

    int meeting() {
        int best = NONE;
        int least = Integer.MAX_VALUE;
        for (int i = 0; i < s.ledges.size() && !s.people.isEmpty(); i++) {
            int sum = 0;
            for (Person p : s.people) {
                int[] way = s.best(p.ledge, i, -1);
                sum = way == null || sum == Integer.MAX_VALUE ? Integer.MAX_VALUE : sum + way[0];
            }
            if (sum < least) {
                least = sum;
                best = i;
            }
        }
        return best;
    }

    int above() {
        int set = 0;
        for (int i = 0; i < s.people.size(); i++) {
            if (s.best(s.people.get(i).ledge, 0, -1) == null) set |= 1 << i;
        }
        return set;
    }

    int fewest(int person, int ledge) {
        if (noPerson(person) || noLedge(ledge)) return BAD;
        for (int moves = 0; moves <= 2; moves++) if (s.gets(person, ledge, moves)) return moves;
        return NONE;
    }

    int help(int what) {
        if (what < 0 || what > 2) return BAD;
        if (s.ledges.isEmpty()) return NONE;
        int[] best = {NONE, NONE, Integer.bitCount(s.reached(0))};
        for (int i = 0; i < s.ladders.size(); i++) {
            for (int k = 0; k < s.ledges.size(); k++) {
                if (!s.reaches(s.ladders.get(i), k)) continue;
                State then = s.copied();
                then.lean(i, k, false);
                int count = Integer.bitCount(then.reached(0));
                if (count > best[2]) best = new int[] {i, k, count};
            }
        }
        return best[0] == NONE ? NONE : best[what];
    }

    int feed(int a, int b, int c) {
        if (tape.size() > 84) return FULL;
        for (int v : new int[] {a, b, c}) {
            tape.add(v >>> 24);
            tape.add(v >>> 16 & 255);
            tape.add(v >>> 8 & 255);
            tape.add(v & 255);
        }
        return tape.size();
    }

    int trim(int n) {
        if (n < 0 || n > tape.size()) return BAD;
        tape = new ArrayList<>(tape.subList(0, n));
        return n;
    }

    int text() {
        StringBuilder read = new StringBuilder();
        for (int b : tape) read.append((char) b);
        tape.clear();
        Law law;
        try {
            law = new Grammar(read.toString()).law();
        } catch (Fault fault) {
            return -100 - fault.place;
        }
        if (s.laws.size() == 14) return FULL;
        s.laws.add(law);
        return s.laws.size() - 1;
    }

    int textTold(int text, int what) {
        if (text < 0 || text >= s.laws.size() || what < 0 || what > 1) return BAD;
        return what == 0 ? s.laws.get(text).key : leaves(s.laws.get(text).root);
    }

    int why(int key) {
        return key < 0 || key > 2 ? BAD : s.lastLaw(key);
    }

    private static int leaves(Node n) {
        if (n.parts.isEmpty()) return 1;
        int sum = 0;
        for (Node part : n.parts) sum += leaves(part);
        return sum;
    }

    private static int value(Node n, int first, int second, int third) {
        if (n.sign == '0') return n.value;
        if (n.sign == 'x') return new int[] {first, second, third}[n.value];
        int a = value(n.parts.get(0), first, second, third);
        if (n.sign == '!') return a == 0 ? 1 : 0;
        int b = value(n.parts.get(1), first, second, third);
        boolean test = switch (n.sign) {
            case '<' -> a < b;
            case '=' -> a == b;
            case '>' -> a > b;
            case '&' -> a != 0 & b != 0;
            default -> a != 0 | b != 0;
        };
        return switch (n.sign) {
            case '+' -> a + b;
            case '-' -> a - b;
            case '*' -> a * b;
            case '/' -> b == 0 ? 0 : a / b;
            default -> test ? 1 : 0;
        };
    }

    private static final class Fault extends Exception {
        private static final long serialVersionUID = 1;
        final int place;

        Fault(int place) {
            this.place = place;
        }
    }

    /** Goes down the grammar, word by word. */
    private static final class Grammar {
        private final List<String> words = new ArrayList<>();
        private final List<Integer> places = new ArrayList<>();
        private final boolean[] needsBlank;
        private int next = 0;
        private String names = "";

        Grammar(String tape) {
            int at = 0;
            List<Boolean> needing = new ArrayList<>();
            boolean behindWord = false;
            while (at < tape.length()) {
                int end = at + 1;
                String sort = sortOf(tape.charAt(at));
                while (!sort.equals("sign") && end < tape.length() && sortOf(tape.charAt(end)).equals(sort)) end++;
                if (tape.charAt(at) != ' ') {
                    words.add(tape.substring(at, end));
                    places.add(at);
                    needing.add(behindWord && !sort.equals("sign"));
                }
                behindWord = !sort.equals("sign");
                at = end;
            }
            words.add("");
            places.add(tape.length());
            needing.add(false);
            needsBlank = new boolean[needing.size()];
            for (int i = 0; i < needsBlank.length; i++) needsBlank[i] = needing.get(i);
        }

        private static String sortOf(char c) {
            return c >= 'a' && c <= 'z' ? "letters" : c >= '0' && c <= '9' ? "digits" : "sign";
        }

        private Fault fault() {
            return new Fault(places.get(next));
        }

        private boolean isNext(String signs) {
            return words.get(next).length() == 1 && signs.contains(words.get(next));
        }

        Law law() throws Fault {
            int key = Arrays.asList("lean", "move", "toll").indexOf(words.get(next));
            if (key < 0) throw fault();
            names = new String[] {"hp", "sld", "mn"}[key];
            next++;
            Node root = row(0, 0, 0);
            if (next != words.size() - 1) throw fault();
            return new Law(key, root);
        }

        private static final String[] SIGNS = {"|", "&", "<=>", "+-", "*/"};

        private Node row(int level, int brackets, int nots) throws Fault {
            if (level == SIGNS.length) return piece(brackets, nots);
            Node node = row(level + 1, brackets, nots);
            int count = 0;
            while (isNext(SIGNS[level]) && !(level == 2 && count == 1)) {
                char sign = words.get(next).charAt(0);
                next++;
                count++;
                node = new Node(sign, 0, List.of(node, row(level + 1, brackets, nots)));
            }
            return node;
        }

        private Node piece(int brackets, int nots) throws Fault {
            String word = words.get(next);
            if (needsBlank[next] || word.isEmpty()) throw fault();
            if (isNext("!") && nots < 8) {
                next++;
                return new Node('!', 0, List.of(piece(brackets, nots + 1)));
            }
            if (isNext("(") && brackets < 8) {
                next++;
                Node inner = row(0, brackets + 1, nots);
                if (!isNext(")")) throw fault();
                next++;
                return inner;
            }
            if (sortOf(word.charAt(0)).equals("digits") && word.length() <= 4) {
                next++;
                return new Node('0', Integer.parseInt(word), List.of());
            }
            if (word.length() == 1 && names.contains(word)) {
                next++;
                return new Node('x', names.indexOf(word), List.of());
            }
            throw fault();
        }
    }

    private boolean noSheet(int k) {
        return k < 0 || k > 3;
    }

    private boolean missing(int sheet) {
        return floats[sheet] == null && shorts[sheet] == null;
    }

    private int places(int sheet) {
        return floats[sheet] != null ? floats[sheet].length : shorts[sheet].length;
    }

    /** A place as a number, or null. */
    private Integer at(int sheet, int place) {
        if (shorts[sheet] != null) return (int) shorts[sheet][place];
        Float v = floats[sheet][place];
        return v == null ? null : (Integer) (int) (float) v;
    }

    int sheet(int sheet, int sort, int n) {
        if (noSheet(sheet) || sort < -1 || sort > 1 || sort >= 0 && n > 24) return BAD;
        if (sort >= 0 && n < 0) return SIZE;
        floats[sheet] = null;
        shorts[sheet] = null;
        if (sort == 0) Arrays.fill(shorts[sheet] = new Short[n], (short) 0);
        if (sort == 1) Arrays.fill(floats[sheet] = new Float[n], 0f);
        return sort < 0 ? 0 : n;
    }

    int mark(int sheet, int place, int v) {
        if (noSheet(sheet)) return BAD;
        if (missing(sheet)) return NOTHING;
        if (place < 0 || place >= places(sheet)) return INDEX;
        if (shorts[sheet] != null && v == NONE) return KIND;
        if (floats[sheet] != null && v != NONE && (v < -99999 || v > 99999)) return BAD;
        if (shorts[sheet] != null) shorts[sheet][place] = (short) v;
        else floats[sheet][place] = v == NONE ? null : (Float) (float) v;
        return 1;
    }

    int pour(int sheet) {
        if (noSheet(sheet)) return BAD;
        if (missing(sheet)) return NOTHING;
        int changed = 0;
        for (int i = 0; i < s.ledges.size(); i++) {
            if (i >= places(sheet) || at(sheet, i) == null) continue;
            int v = at(sheet, i) < 0 ? 0 : at(sheet, i) > 99 ? 99 : at(sheet, i);
            if (v != s.ledges.get(i).height) changed++;
            s.ledges.set(i, new Ledge(v, s.ledges.get(i).place));
        }
        return changed;
    }

    int nearest(int sheet, int what) {
        if (noSheet(sheet) || what < 0 || what > 1) return BAD;
        if (missing(sheet)) return NOTHING;
        int best = NONE;
        int least = NONE;
        for (int i = 0; i < s.ledges.size(); i++) {
            int sum = 0;
            for (int k = 0; k < places(sheet); k++) {
                if (at(sheet, k) == null) continue;
                int[] way = k < s.ledges.size() ? s.best(i, k, -1) : null;
                int differs = (way == null ? 999 : way[0]) - at(sheet, k);
                sum += differs < 0 ? -differs : differs;
            }
            if (best == NONE || sum < least) {
                best = i;
                least = sum;
            }
        }
        return what == 0 ? best : least;
    }

    int copy(int from, int place, int to, int at, int many) {
        if (noSheet(from) || noSheet(to)) return BAD;
        if (missing(from) || missing(to)) return NOTHING;
        if ((shorts[from] == null) != (shorts[to] == null)) return KIND;
        boolean within = place >= 0 && at >= 0 && many >= 0
            && (long) place + many <= places(from) && (long) at + many <= places(to);
        if (!within) return INDEX;
        Object[] source = shorts[from] != null ? shorts[from].clone() : floats[from].clone();
        Object[] target = shorts[to] != null ? shorts[to] : floats[to];
        for (int i = 0; i < many; i++) target[at + i] = source[place + i];
        return many;
    }

    int lay(int slot, int thing, int k) {
        if (slot < 0 || slot > 4 || thing < 0 || thing > 3) return BAD;
        if (thing == 1 && noLadder(k) || thing == 2 && noSheet(k)) return BAD;
        if (thing == 2 && missing(k)) return NOTHING;
        int held = slots[slot] == null ? 0 : slots[slot].thing;
        slots[slot] = switch (thing) {
            case 0 -> null;
            case 1 -> new Slot(1, s.ladders.get(k), null, null, 0);
            case 2 -> new Slot(2, null, floats[k] == null ? null : floats[k].clone(),
                shorts[k] == null ? null : shorts[k].clone(), 0);
            default -> new Slot(3, null, null, null, k);
        };
        return held;
    }

    int ask(int slot, int kind) {
        if (slot < 0 || slot > 4 || kind < 0 || kind > 5) return BAD;
        if (slots[slot] == null) return NOTHING;
        Ladder l = slots[slot].ladder;
        return l == null || !isKind(l.kind, kind) ? KIND : worth(l.kind, l.length);
    }

    int item(int slot, int place) {
        if (slot < 0 || slot > 4) return BAD;
        if (slots[slot] == null) return NOTHING;
        Short[] shortRow = slots[slot].shorts;
        Float[] floatRow = slots[slot].floats;
        if (shortRow == null && floatRow == null) return KIND;
        if (place < 0 || place >= (shortRow == null ? floatRow.length : shortRow.length)) return INDEX;
        if (shortRow != null) return shortRow[place];
        return floatRow[place] == null ? KIND : (int) (float) floatRow[place];
    }

    int rest(int slot, int n) {
        if (slot < 0 || slot > 4) return BAD;
        if (slots[slot] == null) return NOTHING;
        if (slots[slot].thing != 3) return KIND;
        return n == 0 ? NO : (int) ((long) slots[slot].number % n);
    }

    int tell(int v) {
        if (waiting.size() == 60) return FULL;
        waiting.add(v);
        return waiting.size();
    }

    int check(int n) {
        List<Integer> told = waiting;
        waiting = new ArrayList<>();
        if (n < 1 || n > 30) return BAD;
        if (image == null) return NO;
        List<Integer> due = nightsTold(n);
        for (int i = 0; i < Math.max(due.size(), told.size()); i++) {
            if (i >= due.size() || i >= told.size() || !due.get(i).equals(told.get(i))) return 1 + i;
        }
        return 0;
    }

    boolean hasImage() {
        return image != null;
    }

    List<Integer> nightsTold(int n) {
        State then = image.copied();
        List<Integer> row = new ArrayList<>();
        for (int i = 0; i < n; i++) {
            then.night();
            int standing = 0;
            for (Ladder l : then.ladders) if (then.stands(l)) standing++;
            row.add(standing);
            row.add(then.ledges.isEmpty() ? 0 : Integer.bitCount(then.reached(0)));
        }
        return row;
    }

    int keep() {
        image = s.copied();
        return s.ladders.size();
    }

    int back() {
        if (image == null) return NO;
        s = image.copied();
        return s.ladders.size();
    }

    int count(int what) {
        int standing = 0;
        int moved = 0;
        for (Ladder l : s.ladders) {
            if (s.stands(l)) standing++;
            if (l.moved) moved++;
        }
        int[] counts = {s.ledges.size(), s.ladders.size(), s.people.size(), s.day, standing, moved, s.laws.size(),
            waiting.size(), tape.size(), s.z};
        return what < 0 || what > 9 ? BAD : counts[what];
    }
}
