import java.util.ArrayList;
import java.util.Arrays;
import java.util.HashMap;
import java.util.HashSet;
import java.util.List;
import java.util.Map;
import java.util.Set;

/**
 * The document once more, word by word and without any thrift: what LateMirror answers is held against it.
 * It shares no code and no shortcut with the class: states are texts, searches meet all states, laws are tried all.
 */
final class PlainMirror {
    static final int NONE = -1;
    static final int SPENT = -1000;
    private static final List<String> DOINGS =
        List.of("stay", "to", "fro", "takel", "taker", "putl", "putr", "reachl", "reachr");
    private static final int[] OTHER = {0, 1, 2, 4, 3, 6, 5, 8, 7};

    // ---- the text

    static final class Fault extends RuntimeException {
        final int kind;
        final int place;
        Fault(int kind, int place) {
            this.kind = kind;
            this.place = place;
        }
    }

    record Token(char sort, String text, int place) { }

    interface Sum { int of(Map<String, Integer> names); }

    interface Truth { boolean of(Map<String, Integer> names); }

    record Rule(int who, Truth when, int doing) { }

    record Person(int cell, int late) { }

    static final class Arcade {
        int deep = 5;
        int miss = 0;
        int lines = 0;
        List<Person> people = new ArrayList<>();
        List<Integer> things = new ArrayList<>();
        List<Rule> rules = new ArrayList<>();
    }

    static final class Text {
        final List<Token> tokens = new ArrayList<>();
        int at = 0;
        Arcade arcade = new Arcade();

        Text(byte[] bytes) {
            int i = 0;
            while (i < bytes.length) {
                int c = bytes[i] & 255;
                if (c == 10 || c == 32) {
                    i++;
                    continue;
                }
                int from = i;
                char sort;
                if (c >= 'a' && c <= 'z') {
                    while (i < bytes.length && bytes[i] >= 'a' && bytes[i] <= 'z') i++;
                    sort = 'w';
                } else if (c >= '0' && c <= '9') {
                    while (i < bytes.length && bytes[i] >= '0' && bytes[i] <= '9') i++;
                    sort = i - from > 3 ? '!' : 'n';
                } else {
                    i++;
                    sort = ";:+-*()[]=<>".indexOf(c) >= 0 ? 's' : '!';
                }
                StringBuilder text = new StringBuilder();
                for (int k = from; k < i; k++) text.append((char) (bytes[k] & 255));
                tokens.add(new Token(sort, text.toString(), from));
            }
            tokens.add(new Token('e', "", bytes.length));
        }

        Token now() {
            return tokens.get(at);
        }

        Fault cant() {
            return new Fault(now().sort == '!' ? 1 : 2, now().place);
        }

        boolean is(String text) {
            return (now().sort == 'w' || now().sort == 's') && now().text.equals(text);
        }

        void must(String text) {
            if (!is(text)) throw cant();
            at++;
        }

        boolean may(String text) {
            if (!is(text)) return false;
            at++;
            return true;
        }

        int number(int least, int most) {
            if (now().sort != 'n') throw cant();
            int n = Integer.parseInt(now().text);
            if (n < least || n > most) throw new Fault(3, now().place);
            at++;
            return n;
        }

        Arcade whole() {
            while (now().sort != 'e') {
                line();
                must(";");
                arcade.lines++;
            }
            return arcade;
        }

        void line() {
            int place = now().place;
            if (may("deep")) {
                if (!arcade.people.isEmpty() || !arcade.things.isEmpty()) throw new Fault(2, place);
                arcade.deep = number(2, 9);
            } else if (may("person")) {
                if (arcade.people.size() == 3) throw new Fault(4, place);
                int cell = number(0, arcade.deep - 1);
                arcade.people.add(new Person(cell, may("late") ? number(0, 4) : 1));
            } else if (may("thing")) {
                if (arcade.things.size() == 4) throw new Fault(4, place);
                int cell = number(0, arcade.deep - 1);
                arcade.things.add(may("there") ? 10 + cell : cell);
            } else if (may("miss")) {
                arcade.miss = number(0, 9);
            } else if (may("rule")) {
                if (arcade.rules.size() == 8) throw new Fault(4, place);
                int who = is(":") ? NONE : number(0, arcade.people.size() - 1);
                must(":");
                Truth when = truth(0);
                must("do");
                int doing = now().sort == 'w' ? DOINGS.indexOf(now().text) : NONE;
                if (doing < 0) throw cant();
                at++;
                arcade.rules.add(new Rule(who, when, doing));
            } else {
                throw cant();
            }
        }

        Truth truth(int within) {
            Truth left = both(within);
            while (may("or")) {
                Truth a = left;
                Truth b = both(within);
                left = names -> a.of(names) || b.of(names);
            }
            return left;
        }

        Truth both(int within) {
            Truth left = unit(within);
            while (may("and")) {
                Truth a = left;
                Truth b = unit(within);
                left = names -> a.of(names) && b.of(names);
            }
            return left;
        }

        void deeper(int within) {
            if (within == 6) throw new Fault(4, now().place);
        }

        Truth unit(int within) {
            if (is("not")) {
                deeper(within);
                at++;
                Truth inner = unit(within + 1);
                return names -> !inner.of(names);
            }
            if (is("[")) {
                deeper(within);
                at++;
                Truth inner = truth(within + 1);
                must("]");
                return inner;
            }
            Sum a = sum(within);
            String sign = now().text;
            if (!is("=") && !is("<") && !is(">")) throw cant();
            at++;
            Sum b = sum(within);
            return names -> {
                int x = a.of(names);
                int y = b.of(names);
                return sign.equals("=") ? x == y : sign.equals("<") ? x < y : x > y;
            };
        }

        static int kept(long v) {
            return v > 1_000_000 ? 1_000_000 : v < -1_000_000 ? -1_000_000 : (int) v;
        }

        Sum sum(int within) {
            Sum left = term(within);
            while (is("+") || is("-")) {
                long sign = is("+") ? 1 : -1;
                at++;
                Sum a = left;
                Sum b = term(within);
                left = names -> kept(a.of(names) + sign * b.of(names));
            }
            return left;
        }

        Sum term(int within) {
            Sum left = atom(within);
            while (may("*")) {
                Sum a = left;
                Sum b = atom(within);
                left = names -> kept((long) a.of(names) * b.of(names));
            }
            return left;
        }

        Sum atom(int within) {
            if (is("(")) {
                deeper(within);
                at++;
                Sum inner = sum(within + 1);
                must(")");
                return inner;
            }
            if (now().sort == 'n') {
                int n = number(0, 999);
                return names -> n;
            }
            String name = now().text;
            if (now().sort != 'w' || !List.of("late", "at", "mine", "left", "right", "bored").contains(name)) throw cant();
            at++;
            return names -> names.get(name);
        }
    }

    // ---- the state

    static final class State {
        int[] cell = new int[3];
        int[] copyCell = new int[3];
        int[][] hand = new int[3][2];
        int[][] copyHand = new int[3][2];
        int[] lies = new int[4];
        int[] bored = new int[3];
        List<int[]> told = new ArrayList<>();
        int[] could = new int[3];
        int[] did = {NONE, NONE, NONE};
        int[] copyCould = new int[3];
        int[][] owed = new int[3][3];

        State() {
            for (int p = 0; p < 3; p++) {
                Arrays.fill(hand[p], NONE);
                Arrays.fill(copyHand[p], NONE);
            }
            Arrays.fill(lies, NONE);
        }

        State twin() {
            State s = new State();
            s.cell = cell.clone();
            s.copyCell = copyCell.clone();
            s.lies = lies.clone();
            s.bored = bored.clone();
            s.told = new ArrayList<>(told);
            s.could = could.clone();
            s.did = did.clone();
            s.copyCould = copyCould.clone();
            for (int p = 0; p < 3; p++) {
                s.hand[p] = hand[p].clone();
                s.copyHand[p] = copyHand[p].clone();
                s.owed[p] = owed[p].clone();
            }
            return s;
        }
    }

    Arcade arcade = new Arcade();
    State state = new State();
    byte[] tape = new byte[0];
    int fault = 0;
    int faultPlace = NONE;
    List<State> past = new ArrayList<>();
    long[][] trays = new long[4][];
    int[] sorts = new int[4];
    Arcade[] imageArcade = new Arcade[2];
    State[] imageState = new State[2];

    int people() {
        return arcade.people.size();
    }

    boolean isPerson(int p) {
        return p >= 0 && p < people();
    }

    boolean isCell(long c) {
        return c >= 0 && c < arcade.deep;
    }

    long nines(int n) {
        long v = 1;
        for (int i = 0; i < n; i++) v *= 9;
        return v;
    }

    boolean areDoings(long v) {
        return v >= 0 && v < nines(people());
    }

    void keep() {
        past.add(state.twin());
        if (past.size() > 10) past.remove(0);
    }

    boolean act(State s, int p, boolean there, int doing, boolean really) {
        int[] cells = there ? s.copyCell : s.cell;
        int[] hands = there ? s.copyHand[p] : s.hand[p];
        int ground = (there ? 10 : 0) + cells[p];
        if (doing == 0) return true;
        if (doing == 1) {
            if (cells[p] == 0) return false;
            if (really) cells[p]--;
            return true;
        }
        if (doing == 2) {
            if (cells[p] == arcade.deep - 1) return false;
            if (really) cells[p]++;
            return true;
        }
        int h = (doing - 3) % 2;
        if (doing == 3 || doing == 4) {
            if (hands[h] != NONE) return false;
            for (int t = 0; t < arcade.things.size(); t++) {
                if (s.lies[t] == ground) {
                    if (really) {
                        hands[h] = t;
                        s.lies[t] = NONE;
                    }
                    return true;
                }
            }
            return false;
        }
        if (doing == 5 || doing == 6) {
            if (hands[h] == NONE) return false;
            if (really) {
                s.lies[hands[h]] = ground;
                hands[h] = NONE;
            }
            return true;
        }
        return cells[p] == 0;
    }

    int lateDoing(List<int[]> told, int p) {
        int i = told.size() - 1 - arcade.people.get(p).late;
        return i < 0 ? 0 : OTHER[told.get(i)[p]];
    }

    int advance(State s, long doings) {
        int n = people();
        int[] told = new int[3];
        for (int p = 0; p < n; p++) {
            told[p] = (int) (doings % 9);
            doings /= 9;
        }
        s.told.add(told);
        for (int p = 0; p < n; p++) s.could[p] = act(s, p, false, told[p], true) ? 1 : 0;
        for (int p = 0; p < n; p++) {
            int late = lateDoing(s.told, p);
            s.bored[p] = late == 0 ? Math.min(9, s.bored[p] + 1) : 0;
            Map<String, Integer> names = new HashMap<>();
            names.put("late", late);
            names.put("at", s.copyCell[p]);
            names.put("mine", s.cell[p]);
            names.put("left", s.copyHand[p][0] == NONE ? 0 : 1);
            names.put("right", s.copyHand[p][1] == NONE ? 0 : 1);
            names.put("bored", s.bored[p]);
            int doing = late;
            for (Rule r : arcade.rules) {
                if ((r.who == NONE || r.who == p) && r.when.of(names)) {
                    doing = r.doing;
                    break;
                }
            }
            s.did[p] = doing;
            s.copyCould[p] = act(s, p, true, doing, true) ? 1 : 0;
        }
        return passThings(s, told);
    }

    int passThings(State s, int[] told) {
        Set<Integer> passed = new HashSet<>();
        for (int p = 0; p < people(); p++) {
            if (told[p] < 7 || s.could[p] == 0) continue;
            int h = told[p] - 7;
            for (int c = 0; c < people(); c++) {
                if (s.did[c] != 7 + (1 - h) || s.copyCould[c] == 0 || passed.contains(c)) continue;
                int a = s.hand[p][h];
                int b = s.copyHand[c][1 - h];
                if ((a == NONE) == (b == NONE)) continue;
                s.hand[p][h] = b;
                s.copyHand[c][1 - h] = a;
                passed.add(c);
                break;
            }
        }
        return passed.size();
    }

    int placeOf(State s, int t) {
        if (s.lies[t] != NONE) return s.lies[t];
        for (int p = 0; p < 3; p++) {
            for (int h = 0; h < 2; h++) {
                if (s.hand[p][h] == t) return 20 + 2 * p + h;
                if (s.copyHand[p][h] == t) return 30 + 2 * p + h;
            }
        }
        throw new IllegalStateException("a thing is lost");
    }

    String likeness(State s) {
        StringBuilder b = new StringBuilder();
        b.append(Arrays.toString(s.cell)).append(Arrays.toString(s.copyCell));
        for (int t = 0; t < arcade.things.size(); t++) b.append(placeOf(s, t)).append(',');
        b.append(Arrays.toString(s.bored));
        for (int k = 0; k < 4; k++) {
            int i = s.told.size() - 1 - k;
            b.append(Arrays.toString(i < 0 ? new int[3] : s.told.get(i)));
        }
        return b.append(Arrays.deepToString(s.owed)).toString();
    }

    // ---- the calls

    int feed(int... five) {
        if (tape.length + 20 > 900) return -5;
        int n = tape.length;
        tape = Arrays.copyOf(tape, n + 20);
        for (int v : five) {
            for (int k = 3; k >= 0; k--) tape[n++] = (byte) (v >> (8 * k));
        }
        return tape.length;
    }

    int arcade(int n) {
        if (n < 0 || n > tape.length) return -3;
        byte[] text = Arrays.copyOf(tape, n);
        tape = new byte[0];
        try {
            Arcade read = new Text(text).whole();
            fault = 0;
            faultPlace = NONE;
            arcade = read;
        } catch (Fault f) {
            fault = f.kind;
            faultPlace = f.place;
            return -30 - f.kind;
        }
        state = new State();
        for (int p = 0; p < people(); p++) state.cell[p] = state.copyCell[p] = arcade.people.get(p).cell;
        for (int t = 0; t < arcade.things.size(); t++) state.lies[t] = arcade.things.get(t);
        past.clear();
        return arcade.lines;
    }

    int fault(int what) {
        return what == 0 ? fault : what == 1 ? faultPlace : NONE;
    }

    int person(int p, int what) {
        if (!isPerson(p) || what < 0 || what > 5) return -2;
        List<int[]> told = state.told;
        return new int[] {state.cell[p], arcade.people.get(p).late, state.hand[p][0], state.hand[p][1],
            told.isEmpty() ? NONE : told.get(told.size() - 1)[p], state.could[p]}[what];
    }

    int copy(int p, int what) {
        if (!isPerson(p) || what < 0 || what > 5) return -2;
        return new int[] {state.copyCell[p], state.bored[p], state.copyHand[p][0], state.copyHand[p][1],
            state.did[p], state.copyCould[p]}[what];
    }

    int thing(int t) {
        return t < 0 || t >= arcade.things.size() ? -2 : placeOf(state, t);
    }

    int can(int p, int doing) {
        if (!isPerson(p) || doing < 0 || doing > 8) return -2;
        return act(state, p, false, doing, false) ? 1 : 0;
    }

    int would(int p, int doing) {
        if (!isPerson(p) || doing < 0 || doing > 8) return -2;
        State s = state.twin();
        advance(s, doing * nines(p));
        return s.did[p];
    }

    int step(int doings) {
        if (!areDoings(doings)) return -3;
        keep();
        return advance(state, doings);
    }

    int undo(int n) {
        if (n < 1 || n > 10 || n > past.size()) return -3;
        for (int i = 0; i < n; i++) state = past.remove(past.size() - 1);
        return past.size();
    }

    int trayRefusal(int tray) {
        return tray < 0 || tray > 3 ? -2 : trays[tray] == null ? -6 : 0;
    }

    int judge(int tray, int what) {
        if (what < 0 || what > 3) return -2;
        if (trayRefusal(tray) != 0) return trayRefusal(tray);
        State s = state.twin();
        int steps = 0;
        int passed = 0;
        int failed = 0;
        for (long v : trays[tray]) {
            if (!areDoings(v)) return new int[] {steps, steps, passed, failed}[what];
            passed += advance(s, v);
            for (int p = 0; p < people(); p++) failed += 1 - s.copyCould[p];
            steps++;
        }
        return new int[] {NONE, steps, passed, failed}[what];
    }

    int perform(int tray) {
        if (trayRefusal(tray) != 0) return trayRefusal(tray);
        int steps = judge(tray, 1);
        if (steps > 0) keep();
        for (int i = 0; i < steps; i++) advance(state, trays[tray][i]);
        return steps;
    }

    int day(int seed, int steps) {
        if (steps < 1 || steps > 60) return -3;
        if (people() == 0) return -5;
        keep();
        int x = seed;
        int passed = 0;
        for (int i = 0; i < steps; i++) {
            long doings = 0;
            for (int p = 0; p < people(); p++) {
                x = x * 1103515245 + 12345;
                doings += nines(p) * ((x >>> 16) % 9);
            }
            passed += advance(state, doings);
        }
        return passed;
    }

    int fails(int tray, int what) {
        if (what < 0 || what > 1) return -2;
        if (trayRefusal(tray) != 0) return trayRefusal(tray);
        State s = state.twin();
        for (int i = 0; i < trays[tray].length && areDoings(trays[tray][i]); i++) {
            advance(s, trays[tray][i]);
            for (int p = 0; p < people(); p++) {
                if (s.copyCould[p] == 0) return what == 0 ? i : p;
            }
        }
        return NONE;
    }

    int round(int tray, int what) {
        if (what < 0 || what > 1) return -2;
        if (trayRefusal(tray) != 0) return trayRefusal(tray);
        if (trays[tray].length < 1 || trays[tray].length > 10) return -4;
        for (long v : trays[tray]) if (!areDoings(v)) return -3;
        Map<String, Integer> met = new HashMap<>();
        State s = state.twin();
        for (int times = 0; times <= 200; times++) {
            Integer before = met.putIfAbsent(likeness(s), times);
            if (before != null) return what == 0 ? times - before : before;
            for (long v : trays[tray]) advance(s, v);
        }
        return NONE;
    }

    boolean isPlace(int place) {
        return isCell(place) || isCell(place - 10L) || (place >= 20 && place < 20 + 2 * people())
            || (place >= 30 && place < 30 + 2 * people());
    }

    record Way(State state, List<Integer> doings) { }

    int soonest(int p, int thing, int place, int what) {
        if (!isPerson(p) || thing < -1 || thing >= arcade.things.size()) return -2;
        if (what != 0 && (what < 10 || what > 17)) return -2;
        if (thing != NONE && !isPlace(place)) return -3;
        if (thing != NONE && placeOf(state, thing) == place) return what == 0 ? 0 : NONE;
        Set<String> met = new HashSet<>();
        met.add(likeness(state));
        List<Way> latest = List.of(new Way(state.twin(), List.of()));
        for (int steps = 1; steps <= 8; steps++) {
            List<Way> next = new ArrayList<>();
            for (Way w : latest) {
                for (int d = 0; d < 9; d++) {
                    State s = w.state.twin();
                    int passed = advance(s, d * nines(p));
                    List<Integer> doings = new ArrayList<>(w.doings);
                    doings.add(d);
                    if (thing == NONE ? passed > 0 : placeOf(s, thing) == place) {
                        return what == 0 ? steps : what - 10 < steps ? doings.get(what - 10) : NONE;
                    }
                    if (met.add(likeness(s))) next.add(new Way(s, doings));
                }
            }
            if (met.size() > 3000) return SPENT;
            if (next.isEmpty()) return NONE;
            latest = next;
        }
        return NONE;
    }

    Map<String, State> behind(int p, int n) {
        Map<String, State> latest = new HashMap<>();
        latest.put(likeness(state), state);
        for (int i = 0; i < n; i++) {
            Map<String, State> next = new HashMap<>();
            for (State w : latest.values()) {
                for (int d = 0; d < 9; d++) {
                    State s = w.twin();
                    advance(s, d * nines(p));
                    next.put(likeness(s), s);
                }
            }
            latest = next;
        }
        return latest;
    }

    int states(int p, int n) {
        if (!isPerson(p)) return -2;
        if (n < 0 || n > 4) return -3;
        return behind(p, n).size();
    }

    int reach(int p, int n) {
        if (!isPerson(p)) return -2;
        if (n < 0 || n > 4) return -3;
        int bits = 0;
        for (State s : behind(p, n).values()) bits |= 1 << s.copyCell[p];
        return bits;
    }

    // ---- laws

    int seenRefusal(int tray) {
        if (trayRefusal(tray) != 0) return trayRefusal(tray);
        if (trays[tray].length < 1 || trays[tray].length > 30) return -4;
        for (long v : trays[tray]) if (v < 0 || v > 80) return -3;
        return 0;
    }

    record Law(int late, int out) {
        int does(List<Integer> told, int i) {
            int d = i - late < 0 ? 0 : OTHER[told.get(i - late)];
            return (out >> d & 1) == 1 ? 0 : d;
        }
    }

    List<Integer> toldSeen(int tray) {
        List<Integer> told = new ArrayList<>();
        for (long v : trays[tray]) told.add((int) v / 9);
        return told;
    }

    List<Law> fitting(int tray) {
        List<Law> laws = new ArrayList<>();
        List<Integer> told = toldSeen(tray);
        for (int late = 0; late <= 4; late++) {
            for (int out = 0; out < 512; out += 2) {
                Law law = new Law(late, out);
                boolean fits = true;
                for (int i = 0; i < told.size(); i++) fits &= law.does(told, i) == trays[tray][i] % 9;
                if (fits) laws.add(law);
            }
        }
        return laws;
    }

    int fits(int tray) {
        return seenRefusal(tray) != 0 ? seenRefusal(tray) : fitting(tray).size();
    }

    int smallest(int tray, int what) {
        if (what < 0 || what > 1) return -2;
        if (seenRefusal(tray) != 0) return seenRefusal(tray);
        Law best = null;
        for (Law law : fitting(tray)) {
            if (best == null || Integer.bitCount(law.out) < Integer.bitCount(best.out)) best = law;
        }
        return best == null ? NONE : what == 0 ? best.late : best.out;
    }

    int sure(int tray) {
        if (seenRefusal(tray) != 0) return seenRefusal(tray);
        int bits = NONE;
        for (Law law : fitting(tray)) bits = bits == NONE ? law.out : bits & law.out;
        return bits;
    }

    int telling(int tray, int what) {
        if (what < 0 || what > 1) return -2;
        if (seenRefusal(tray) != 0) return seenRefusal(tray);
        List<Law> laws = fitting(tray);
        if (laws.size() < 2) return NONE;
        int best = NONE;
        int fewest = Integer.MAX_VALUE;
        for (int d = 0; d < 9; d++) {
            List<Integer> told = toldSeen(tray);
            told.add(d);
            for (int i = 0; i < 4; i++) told.add(0);
            Map<List<Integer>, Integer> parts = new HashMap<>();
            for (Law law : laws) {
                List<Integer> row = new ArrayList<>();
                for (int i = told.size() - 5; i < told.size(); i++) row.add(law.does(told, i));
                parts.merge(row, 1, Integer::sum);
            }
            int most = 0;
            for (int v : parts.values()) most = Math.max(most, v);
            if (most < fewest) {
                fewest = most;
                best = d;
            }
        }
        return what == 0 ? best : fewest;
    }

    // ---- what was meant, odds

    int meantRefusal(int p, int tray) {
        if (!isPerson(p)) return -2;
        if (trayRefusal(tray) != 0) return trayRefusal(tray);
        if (trays[tray].length < 1 || trays[tray].length > 5) return -4;
        for (long v : trays[tray]) if (v != NONE && !isCell(v)) return -3;
        return 0;
    }

    void rows(State from, int p, long[] cells, int depth, int told, List<Integer> found) {
        if (depth == cells.length) {
            found.add(told);
            return;
        }
        for (int d = 0; d < 9; d++) {
            State s = from.twin();
            advance(s, d * nines(p));
            if (cells[depth] == NONE || cells[depth] == s.copyCell[p]) rows(s, p, cells, depth + 1, told * 9 + d, found);
        }
    }

    int meant(int p, int tray, int k) {
        if (meantRefusal(p, tray) != 0) return meantRefusal(p, tray);
        List<Integer> found = new ArrayList<>();
        rows(state, p, trays[tray], 0, 0, found);
        return k == NONE ? found.size() : k < 0 || k >= found.size() ? NONE : found.get(k);
    }

    int maybe(int p, int tray, int place) {
        if (meantRefusal(p, tray) != 0) return meantRefusal(p, tray);
        if (place < 0 || place >= trays[tray].length) return -3;
        List<Integer> found = new ArrayList<>();
        rows(state, p, trays[tray], 0, 0, found);
        int bits = 0;
        for (int row : found) bits |= 1 << (row / nines(trays[tray].length - 1 - place) % 9);
        return bits;
    }

    long odds(int p, int tray, int cell) {
        if (!isPerson(p)) return -2;
        if (trayRefusal(tray) != 0) return trayRefusal(tray);
        int n = trays[tray].length;
        if (n < 1 || n > 8) return -4;
        if (!isCell(cell)) return -3;
        for (long v : trays[tray]) if (!areDoings(v)) return -3;
        List<Integer> told = new ArrayList<>();
        for (int[] t : state.told) told.add(t[p]);
        for (long v : trays[tray]) told.add((int) (v / nines(p) % 9));
        long ways = 0;
        for (int missed = 0; missed < 1 << n; missed++) {
            int at = state.copyCell[p];
            long weight = 1;
            for (int i = 0; i < n; i++) {
                int from = state.told.size() + i - arcade.people.get(p).late;
                int d = from < 0 ? 0 : told.get(from);
                boolean misses = (missed >> i & 1) == 1;
                weight *= misses ? arcade.miss : 10 - arcade.miss;
                if (!misses && d == 1) at = Math.max(0, at - 1);
                if (!misses && d == 2) at = Math.min(arcade.deep - 1, at + 1);
            }
            if (at == cell) ways += weight;
        }
        return ways;
    }

    // ---- a game, debts

    static boolean wins(int left, int m, int late, List<Integer> took, int first, Map<String, Boolean> known) {
        if (first > left) return false;
        List<Integer> mine = new ArrayList<>(took);
        mine.add(first);
        int rest = left - first;
        if (rest == 0) return true;
        int i = mine.size() - 1 - late;
        int other = Math.min(rest, i < 0 ? 0 : mine.get(i));
        rest -= other;
        if (rest == 0) return false;
        List<Integer> latest = mine.subList(Math.max(0, mine.size() - late - 1), mine.size());
        String key = rest + ":" + latest;
        Boolean is = known.get(key);
        if (is == null) {
            is = false;
            for (int k = 1; k <= m && !is; k++) is = wins(rest, m, late, mine, k, known);
            known.put(key, is);
        }
        return is;
    }

    int win(int n, int m, int late) {
        if (n < 0 || n > 60 || m < 1 || m > 4 || late < 0 || late > 3) return -3;
        Map<String, Boolean> known = new HashMap<>();
        for (int k = 1; k <= m; k++) if (wins(n, m, late, List.of(), k, known)) return k;
        return 0;
    }

    int wins(int m, int late) {
        if (win(0, m, late) < 0) return -3;
        int all = 0;
        for (int n = 0; n <= 60; n++) if (win(n, m, late) > 0) all++;
        return all;
    }

    int lends(int p, int q, int n) {
        if (!isPerson(p) || !isPerson(q) || p == q) return -2;
        if (n < 1 || n > 999) return -3;
        if (state.owed[p][q] + n > 99999) return -4;
        keep();
        return state.owed[p][q] += n;
    }

    int owes(int p, int q, boolean there) {
        if (!isPerson(p) || !isPerson(q) || p == q) return -2;
        return there ? state.owed[q][p] : state.owed[p][q];
    }

    int balance(int p, boolean there) {
        if (!isPerson(p)) return -2;
        int b = 0;
        for (int q = 0; q < people(); q++) {
            if (q != p) b += owes(q, p, there) - owes(p, q, there);
        }
        return b;
    }

    int clear() {
        List<int[]> rings = new ArrayList<>();
        for (int p = 0; p < people(); p++) for (int q = p + 1; q < people(); q++) rings.add(new int[] {p, q});
        if (people() == 3) {
            rings.add(new int[] {0, 1, 2});
            rings.add(new int[] {0, 2, 1});
        }
        State before = state.twin();
        int taken = 0;
        for (int[] ring : rings) {
            int least = Integer.MAX_VALUE;
            for (int i = 0; i < ring.length; i++) least = Math.min(least, state.owed[ring[i]][ring[(i + 1) % ring.length]]);
            for (int i = 0; i < ring.length; i++) state.owed[ring[i]][ring[(i + 1) % ring.length]] -= least;
            taken += least * ring.length;
        }
        if (taken > 0) {
            past.add(before);
            if (past.size() > 10) past.remove(0);
        }
        return taken;
    }

    int payments() {
        int[] b = new int[3];
        for (int p = 0; p < people(); p++) b[p] = balance(p, false);
        if (b[0] == 0 && b[1] == 0 && b[2] == 0) return 0;
        return b[0] == 0 || b[1] == 0 || b[2] == 0 ? 1 : 2;
    }

    // ---- trays, images

    int numbers(int tray, int sort, int n) {
        if (tray < 0 || tray > 3 || sort < 0 || sort > 3) return -2;
        if (n < 0 || n > 40) return -3;
        trays[tray] = new long[n];
        sorts[tray] = sort;
        return 0;
    }

    long write(int tray, int i, long v) {
        if (trayRefusal(tray) != 0) return trayRefusal(tray);
        if (i < 0 || i >= trays[tray].length) return -7;
        int spare = 64 - (8 << sorts[tray]);
        return trays[tray][i] = v << spare >> spare;
    }

    int lists(int tray) {
        if (trayRefusal(tray) != 0) return trayRefusal(tray);
        int n = 0;
        for (int t = 0; t < arcade.things.size() && t < trays[tray].length; t++) {
            write(tray, t, placeOf(state, t));
            n++;
        }
        return n;
    }

    int image(int i) {
        if (i < 0 || i > 1) return -2;
        imageArcade[i] = arcade;
        imageState[i] = state.twin();
        return 0;
    }

    int restore(int i) {
        if (i < 0 || i > 1) return -2;
        if (imageState[i] == null) return -5;
        arcade = imageArcade[i];
        state = imageState[i].twin();
        past.clear();
        return 0;
    }

    int count(int what) {
        if (what < 0 || what > 8) return NONE;
        return new int[] {arcade.deep, people(), arcade.things.size(), arcade.rules.size(), arcade.miss,
            state.told.size(), past.size(), tape.length, arcade.lines}[what];
    }
}
