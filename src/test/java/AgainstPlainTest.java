import java.nio.charset.StandardCharsets;
import java.util.Random;

/** Random runs of calls, of which each answer and then all that can be asked is held against PlainMirror. */
public final class AgainstPlainTest {
    private static int wrong = 0;
    private static long asked = 0;

    private final Random random;
    private final int run;
    private final LateMirror x = new LateMirror();
    private final PlainMirror plain = new PlainMirror();
    private int calls = 0;
    private int passes = 0;
    private final boolean eager;

    private AgainstPlainTest(int run) {
        this.run = run;
        this.eager = run % 2 == 1;
        this.random = new Random(run * 7919L + 17);
    }

    public static void main(String[] args) {
        int runs = args.length > 0 ? Integer.parseInt(args[0]) : 1500;
        int passes = 0;
        for (int run = 0; run < runs; run++) {
            AgainstPlainTest test = new AgainstPlainTest(run);
            test.play();
            passes += test.passes;
        }
        texts(args.length > 1 ? Integer.parseInt(args[1]) : 40000);
        games();
        manyLaws(300);
        manyDebts(100);
        System.out.println(asked + " answers, " + passes + " steps with passing, " + wrong + " wrong");
        if (passes < runs / 4) {
            System.out.println("too little passed: the runs tell too little");
            wrong++;
        }
        if (wrong != 0) System.exit(1);
    }

    private void due(String call, long got, long want) {
        asked++;
        if (got != want) {
            wrong++;
            if (wrong < 50) System.out.println("run " + run + " call " + calls + ": " + call + " answered " + got + ", due is " + want);
        }
        calls++;
    }

    private int below(int n) {
        return random.nextInt(n);
    }

    private int one(int... of) {
        return of[below(of.length)];
    }

    // ---- texts

    private String blank() {
        return one(0, 0, 0, 0, 0, 0, 0, 1) == 1 ? (random.nextBoolean() ? "\n " : "  ") : " ";
    }

    private String atom(int room) {
        if (room > 0 && below(5) == 0) return "(" + sum(room - 1) + ")";
        String[] names = {"late", "at", "mine", "left", "right", "bored"};
        return below(3) == 0 ? "" + (below(9) == 0 ? below(1000) : below(10)) : names[below(6)];
    }

    private String term(int room) {
        return below(4) == 0 ? atom(room) + "*" + atom(room) : atom(room);
    }

    private String sum(int room) {
        String s = term(room);
        while (below(3) == 0) s += (random.nextBoolean() ? "+" : " - ") + term(room);
        return s;
    }

    private String unit(int room) {
        if (room > 0 && below(6) == 0) return "not " + unit(room - 1);
        if (room > 0 && below(6) == 0) return "[" + truth(room - 1) + "]";
        return sum(room) + " " + "=<>".charAt(below(3)) + " " + sum(room);
    }

    private String truth(int room) {
        String s = unit(room);
        while (below(4) == 0) s += (random.nextBoolean() ? " and " : " or ") + unit(room);
        return s;
    }

    private String rule(int people) {
        String[] doings = {"stay", "to", "fro", "takel", "taker", "putl", "putr", "reachl", "reachr"};
        String who = people > 0 && random.nextBoolean() ? " " + below(people) : "";
        if (below(6) == 0) return "rule" + who + ": at = 0 and bored > 1 do reach" + (random.nextBoolean() ? "l;" : "r;");
        return "rule" + who + ": " + truth(one(0, 1, 3, 7)) + " do " + doings[below(9)] + ";";
    }

    private String text() {
        StringBuilder b = new StringBuilder();
        int deep = 5;
        if (below(4) > 0) {
            deep = below(3) == 0 ? 2 + below(8) : 2 + below(3);
            b.append("deep").append(blank()).append(deep).append(";");
        }
        if (below(5) == 0) b.append("miss ").append(below(10)).append("; ");
        int people = one(0, 1, 1, 1, 2, 2, 3, 3);
        for (int p = 0; p < people; p++) {
            b.append("person ").append(below(3) == 0 ? below(deep) : below(2));
            if (random.nextBoolean()) b.append(" late ").append(below(5));
            b.append(blank()).append(";");
            if (below(4) == 0) b.append(rule(p + 1));
        }
        int things = below(5);
        for (int t = 0; t < things; t++) {
            b.append("thing ").append(below(3) == 0 ? below(deep) : below(2));
            if (below(3) == 0) b.append(" there");
            b.append(";").append(blank());
        }
        int rules = one(0, 0, 1, 2, 3);
        for (int r = 0; r < rules; r++) b.append(rule(people)).append(blank());
        if (below(3) == 0) b.append("miss ").append(below(10)).append(" ; ");
        return b.toString();
    }

    private String spoiled(String text) {
        StringBuilder b = new StringBuilder(text);
        String[] parts = {"deep 4;", "person 0;", "person 9;", "thing 0;", "not ", "[", "]", "(", ")", ";", ":", "1000", "99",
            "or", "and", "do ", "=", "<", "*", "-", "rule : 1=1 do to;", "rule 2:", "late", "there", "x", "A", "\t", "é", "0"};
        for (int i = 1 + below(2); i > 0; i--) {
            int at = below(b.length() + 1);
            if (random.nextBoolean()) {
                b.insert(at, parts[below(parts.length)]);
            } else if (at < b.length()) {
                b.delete(at, Math.min(b.length(), at + 1 + below(4)));
            }
        }
        return b.toString();
    }

    private boolean tell(String text) {
        byte[] bytes = text.getBytes(StandardCharsets.ISO_8859_1);
        if (bytes.length + plain.tape.length > 880) return false;
        if (plain.tape.length > 0) due("arcade(0)", x.arcade(0), plain.arcade(0));
        for (int i = 0; i < bytes.length; i += 20) {
            int[] v = new int[5];
            for (int k = 0; k < 20; k++) {
                int c = i + k < bytes.length ? bytes[i + k] & 255 : below(3) == 0 ? below(256) : 32;
                v[k / 4] = v[k / 4] << 8 | c;
            }
            due("feed", x.feed(v[0], v[1], v[2], v[3], v[4]), plain.feed(v));
        }
        due("arcade(" + bytes.length + ") of " + text, x.arcade(bytes.length), plain.arcade(bytes.length));
        due("fault(0) of " + text, x.fault(0), plain.fault(0));
        due("fault(1) of " + text, x.fault(1), plain.fault(1));
        due("count(7)", x.count(7), plain.count(7));
        return plain.fault == 0;
    }

    // ---- runs

    /** Whether there is still room for some calls and for askAll(): an object is used for 512 calls at most. */
    private boolean hasRoom() {
        return calls < 280;
    }

    private void play() {
        int turns = 1 + below(60);
        while (!tell(text())) { }
        for (int i = 0; i < turns && hasRoom(); i++) turn();
        askAll();
    }

    private int doing() {
        return one(0, 1, 1, 2, 3, 3, 4, 4, 5, 6, 7, 7, 7, 8, 8, 8);
    }

    private int doings() {
        if (below(25) == 0) return one(-1, (int) plain.nines(plain.people()), 729, -9, Integer.MIN_VALUE);
        int v = 0;
        for (int p = plain.people() - 1; p >= 0; p--) v = v * 9 + (eager ? eagerDoing(p) : doing());
        return v;
    }

    // Who takes, goes to the frame and reaches again and again comes to pass things.
    private int eagerDoing(int p) {
        if (below(6) == 0) return doing();
        int held = plain.person(p, 2) >= 0 ? 7 : plain.person(p, 3) >= 0 ? 8 : 0;
        if (held == 0 && plain.can(p, 3) == 1 && below(4) > 0) return 3 + below(2);
        if (plain.person(p, 0) > 0) return 1;
        return held > 0 ? held : 7 + below(2);
    }

    private int someone() {
        return below(12) == 0 ? one(-1, 3, plain.people(), Integer.MAX_VALUE) : below(Math.max(1, plain.people()));
    }

    private int tray() {
        return below(25) == 0 ? one(-1, 4, Integer.MIN_VALUE) : below(4);
    }

    private void turn() {
        int kind = below(24);
        if (kind < 6) {
            step();
        } else if (kind < 9) {
            hours();
        } else if (kind < 11) {
            undoings();
        } else if (kind < 13) {
            debts();
        } else if (kind == 13) {
            images();
        } else if (kind < 16) {
            sought();
        } else if (kind < 19) {
            laws();
        } else if (kind < 21) {
            meanings();
        } else if (kind == 21) {
            chances();
        } else if (kind == 22) {
            trays();
        } else if (below(4) == 0) {
            tell(below(3) == 0 ? spoiled(text()) : text());
        }
    }

    private void step() {
        int v = doings();
        int p = someone();
        int d = below(10) == 0 ? one(-1, 9) : below(9);
        due("would(" + p + ", " + d + ")", x.would(p, d), plain.would(p, d));
        due("can(" + p + ", " + d + ")", x.can(p, d), plain.can(p, d));
        int want = plain.step(v);
        if (want > 0) passes++;
        due("step(" + v + ")", x.step(v), want);
    }

    private void fill(int tray, int n, int kind) {
        int sort = kind == 0 ? 1 + below(3) : below(4);
        due("numbers", x.numbers(tray, sort, n), plain.numbers(tray, sort, n));
        for (int i = 0; i < n; i++) {
            long v = kind == 0 ? doings() : 0;
            due("write", x.write(tray, i, v), plain.write(tray, i, v));
        }
    }

    private void hours() {
        int tray = tray();
        if (below(3) > 0) fill(tray, one(0, 1, 2, 3, 5, 8, 10, 11), 0);
        int what = below(6) - 1;
        due("judge(" + tray + ", " + what + ")", x.judge(tray, what), plain.judge(tray, what));
        what = below(4) - 1;
        due("fails(" + tray + ", " + what + ")", x.fails(tray, what), plain.fails(tray, what));
        due("round(" + tray + ", " + what + ")", x.round(tray, what), plain.round(tray, what));
        if (below(3) > 0) due("perform(" + tray + ")", x.perform(tray), plain.perform(tray));
        if (below(4) == 0) {
            int seed = random.nextInt();
            int steps = one(-1, 0, 1, 2, 3, 7, 60, 61);
            due("day(" + seed + ", " + steps + ")", x.day(seed, steps), plain.day(seed, steps));
        }
    }

    private void undoings() {
        int n = one(1, 1, 1, 2, 3, 9, 10, 11, 0, -1);
        due("undo(" + n + ")", x.undo(n), plain.undo(n));
    }

    private void debts() {
        int p = someone();
        int q = someone();
        int n = one(1, 2, 3, 5, 999, 0, 1000, 10, 10, -5);
        due("lends(" + p + ", " + q + ", " + n + ")", x.lends(p, q, n), plain.lends(p, q, n));
        if (below(3) == 0) due("clear()", x.clear(), plain.clear());
    }

    private void images() {
        int i = below(4) - 1;
        if (random.nextBoolean()) {
            due("image(" + i + ")", x.image(i), plain.image(i));
        } else {
            due("restore(" + i + ")", x.restore(i), plain.restore(i));
        }
    }

    private void sought() {
        int p = someone();
        int thing = one(-2, -1, -1, 0, 0, 1, 2, 3, 4);
        int place = one(-1, 0, 1, 2, 9, 10, 11, 12, 19, 20, 21, 22, 25, 26, 30, 31, 32, 33, 35, 36, Integer.MIN_VALUE);
        int what = one(0, 0, 10, 11, 12, 13, 14, 17, 9, 18, 1);
        due("soonest(" + p + ", " + thing + ", " + place + ", " + what + ")",
            x.soonest(p, thing, place, what), plain.soonest(p, thing, place, what));
        int n = below(5) > 0 ? below(4) : one(-1, 4, 5);
        due("states(" + p + ", " + n + ")", x.states(p, n), plain.states(p, n));
        due("reach(" + p + ", " + n + ")", x.reach(p, n), plain.reach(p, n));
    }

    private void laws() {
        int tray = below(4);
        int n = one(1, 2, 3, 4, 6, 10, 30, 31, 0);
        due("numbers", x.numbers(tray, 2, n), plain.numbers(tray, 2, n));
        int late = below(5);
        int out = random.nextBoolean() ? 0 : random.nextInt(256) * 2;
        int[] told = new int[n];
        int[] mirror = {0, 1, 2, 4, 3, 6, 5, 8, 7};
        int kinds = 1 + below(9);
        for (int i = 0; i < n; i++) {
            told[i] = below(kinds);
            int d = i < late ? 0 : mirror[told[i - late]];
            if ((out >> d & 1) == 1) d = 0;
            if (below(150) == 0) d = below(9);
            long v = below(300) == 0 ? one(-1, 81) : 9L * told[i] + d;
            due("write", x.write(tray, i, v), plain.write(tray, i, v));
        }
        askLaws(tray, below(4) - 1);
        askLaws(tray(), 0);
    }

    private void askLaws(int tray, int what) {
        due("fits(" + tray + ")", x.fits(tray), plain.fits(tray));
        due("smallest(" + tray + ", " + what + ")", x.smallest(tray, what), plain.smallest(tray, what));
        due("sure(" + tray + ")", x.sure(tray), plain.sure(tray));
        due("telling(" + tray + ", " + what + ")", x.telling(tray, what), plain.telling(tray, what));
    }

    private void meanings() {
        int tray = below(4);
        int n = one(1, 2, 2, 3, 3, 4, 4, 5, 6, 0);
        due("numbers", x.numbers(tray, 0, n), plain.numbers(tray, 0, n));
        int p = someone();
        for (int i = 0; i < n; i++) {
            long v = below(3) == 0 || !plain.isPerson(p) ? NONE_SEEN : Math.max(0, plain.copy(p, 0) + below(3) - 1);
            if (below(40) == 0) v = one(-2, 9, 5);
            due("write", x.write(tray, i, v), plain.write(tray, i, v));
        }
        due("meant(" + p + ", " + tray + ", -1)", x.meant(p, tray, -1), plain.meant(p, tray, -1));
        int all = plain.meant(p, tray, -1);
        int k = below(6) == 0 ? one(-2, all, all - 1, Integer.MAX_VALUE, Integer.MIN_VALUE) : below(Math.max(1, all));
        due("meant(" + p + ", " + tray + ", " + k + ")", x.meant(p, tray, k), plain.meant(p, tray, k));
        int place = below(7) - 1;
        due("maybe(" + p + ", " + tray + ", " + place + ")", x.maybe(p, tray, place), plain.maybe(p, tray, place));
        int other = tray();
        due("meant(" + p + ", " + other + ", 0)", x.meant(p, other, 0), plain.meant(p, other, 0));
        due("maybe(" + p + ", " + other + ", 0)", x.maybe(p, other, 0), plain.maybe(p, other, 0));
    }

    private static final long NONE_SEEN = -1;

    private void chances() {
        int tray = tray();
        if (below(4) > 0) fill(tray, one(0, 1, 2, 3, 5, 8, 9), 0);
        int p = someone();
        for (int cell = -1; cell <= plain.arcade.deep; cell++) {
            due("odds(" + p + ", " + tray + ", " + cell + ")", x.odds(p, tray, cell), plain.odds(p, tray, cell));
        }
    }

    private void trays() {
        int tray = tray();
        int sort = below(6) - 1;
        int n = one(0, 1, 2, 3, 40, 41, -1);
        due("numbers", x.numbers(tray, sort, n), plain.numbers(tray, sort, n));
        int i = one(-1, 0, 1, 39, 40);
        long v = random.nextBoolean() ? random.nextLong() : below(700) - 350;
        due("write(" + tray + ", " + i + ", " + v + ")", x.write(tray, i, v), plain.write(tray, i, v));
        due("lists(" + tray + ")", x.lists(tray), plain.lists(tray));
        for (int t = 0; t < 4; t++) due("fits", x.fits(t), plain.fits(t));
    }

    private void askAll() {
        for (int w = -1; w <= 9; w++) due("count(" + w + ")", x.count(w), plain.count(w));
        for (int p = -1; p <= 3; p++) {
            for (int w = -1; w <= 6; w++) {
                due("person(" + p + ", " + w + ")", x.person(p, w), plain.person(p, w));
                due("copy(" + p + ", " + w + ")", x.copy(p, w), plain.copy(p, w));
            }
            for (int q = -1; q <= 3; q++) {
                due("owes(" + p + ", " + q + ")", x.owes(p, q, false), plain.owes(p, q, false));
                due("owes(" + p + ", " + q + ", there)", x.owes(p, q, true), plain.owes(p, q, true));
            }
            due("balance(" + p + ")", x.balance(p, false), plain.balance(p, false));
            due("balance(" + p + ", there)", x.balance(p, true), plain.balance(p, true));
        }
        for (int t = -1; t <= 4; t++) due("thing(" + t + ")", x.thing(t), plain.thing(t));
        for (int w = -1; w <= 2; w++) due("fault(" + w + ")", x.fault(w), plain.fault(w));
        due("payments()", x.payments(), plain.payments());
    }

    private static void texts(int many) {
        int good = 0;
        AgainstPlainTest test = new AgainstPlainTest(1000000);
        for (int i = 0; i < many; i++) {
            String text = test.text();
            if (test.below(4) > 0) text = test.spoiled(text);
            if (test.tell(text)) good++;
            if (!test.hasRoom()) {
                test.askAll();
                test = new AgainstPlainTest(1000001 + i);
            }
        }
        System.out.println(many + " texts, " + good + " without fault");
    }

    private static void manyLaws(int many) {
        for (int i = 0; i < many; i++) {
            AgainstPlainTest test = new AgainstPlainTest(3000000 + i);
            for (int k = 0; k < 5; k++) test.laws();
        }
    }

    private static void manyDebts(int many) {
        for (int i = 0; i < many; i++) {
            AgainstPlainTest test = new AgainstPlainTest(4000000 + i);
            test.tell("person 0;person 1;person 2;");
            while (test.hasRoom()) test.someDebts();
            test.askAll();
        }
    }

    private void someDebts() {
        int p = below(3);
        int q = (p + 1 + below(2)) % 3;
        int n = 1 + below(9);
        due("lends(" + p + ", " + q + ", " + n + ")", x.lends(p, q, n), plain.lends(p, q, n));
        due("payments()", x.payments(), plain.payments());
        if (below(4) == 0) due("clear()", x.clear(), plain.clear());
        if (below(5) == 0) undoings();
        due("balance(" + p + ")", x.balance(p, false), plain.balance(p, false));
        due("owes(" + p + ", " + q + ")", x.owes(p, q, true), plain.owes(p, q, true));
    }

    private static void games() {
        for (int m = 0; m <= 5; m++) {
            for (int late = -1; late <= 4; late++) {
                AgainstPlainTest test = new AgainstPlainTest(2000000);
                for (int n = -1; n <= 61; n++) {
                    test.due("win(" + n + ", " + m + ", " + late + ")", test.x.win(n, m, late), test.plain.win(n, m, late));
                }
                test.due("wins(" + m + ", " + late + ")", test.x.wins(m, late), test.plain.wins(m, late));
            }
        }
    }
}
