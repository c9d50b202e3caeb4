/** Codes of refused calls: each of each call, that it changes nothing, and which comes first where several fit. */
public final class RefusedEdgesTest extends Asking {
    private static final int LEAST = Integer.MIN_VALUE;
    private static final int MOST = Integer.MAX_VALUE;
    /** In place of a code: the call is not refused. */
    private static final int FINE = 0;
    private static final int[] PEOPLE = {LEAST, -1, 0, 1, 2, 3, MOST};
    private static final int[] TRAYS = {LEAST, -1, 0, 1, 2, 3, 4, MOST};
    private static final int GOOD = 0;
    private static final int TOO_MANY = 1;
    private static final int NO_SUCH_NUMBER = 2;
    private static final int MISSING = 3;

    public static void main(String[] args) {
        personAndCopy();
        thingCanWould();
        stepAndUndo();
        arcadeAndFaults();
        hours();
        day();
        round();
        soonest();
        statesAndReach();
        laws();
        meantAndMaybe();
        odds();
        games();
        debts();
        debtsTooMany();
        numbersAndWrite();
        writeAndLists();
        images();
        aheadOfSpentAndNone();
        end();
    }

    /**
     * Two people, two things, debts, steps that can be undone, a fault, bytes on the tape, the second image. Of the trays
     * the first does for all calls; the second is too long (or empty) with a number that is none such, the third has such a
     * one alone, the fourth is missing.
     */
    private static LateMirror scene(boolean empty) {
        LateMirror x = told("deep 4;miss 2;person 1 late 0;person 0;thing 1;thing 0 there;rule 1:bored>2 do fro;");
        tell(x, "miss 12;");
        x.image(1);
        x.step(3);
        x.lends(0, 1, 40);
        x.day(5, 3);
        x.lends(1, 0, 7);
        x.feed(0x6D697373, 0x20313B20, 0x20202020, 0x20202020, 0x20202020);
        fill(x, GOOD, 1);
        x.numbers(TOO_MANY, 1, empty ? 0 : 40);
        if (!empty) x.write(TOO_MANY, 0, 999);
        fill(x, NO_SUCH_NUMBER, 999);
        return x;
    }

    private static boolean isOne(int v, int... of) {
        for (int each : of) if (each == v) return true;
        return false;
    }

    private static boolean isPerson(int p) {
        return p == 0 || p == 1;
    }

    private static boolean isTray(int tray) {
        return tray >= 0 && tray <= 3;
    }

    private static void dueCode(String call, long got, int want) {
        due(call, want == FINE && (got >= -1 || got == -1000) ? FINE : got, want);
    }

    private static String call(String name, long... args) {
        StringBuilder b = new StringBuilder(name).append("(");
        for (int i = 0; i < args.length; i++) b.append(i == 0 ? "" : ", ").append(args[i]);
        return b.append(")").toString();
    }

    /** By the tray alone, for calls that ask for so many numbers of a kind. */
    private static int trayCode(int tray) {
        return !isTray(tray) ? -2 : tray == MISSING ? -6 : tray == TOO_MANY ? -4 : tray == NO_SUCH_NUMBER ? -3 : FINE;
    }

    private static void personAndCopy() {
        says("Refused calls answer by a code and change nothing: -2 there is none such");
        LateMirror x = scene(false);
        long[] before = observed(x);
        for (int p : PEOPLE) {
            for (int what : new int[] {LEAST, -1, 0, 5, 6, MOST}) {
                boolean can = isPerson(p) && what >= 0 && what <= 5;
                dueCode(call("person", p, what), x.person(p, what), can ? FINE : -2);
                dueCode(call("copy", p, what), x.copy(p, what), can ? FINE : -2);
            }
        }
        dueSame(before, observed(x), -1);
    }

    private static void thingCanWould() {
        says("-2: one of both.");
        LateMirror x = scene(false);
        long[] before = observed(x);
        for (int t : PEOPLE) dueCode(call("thing", t), x.thing(t), t == 0 || t == 1 ? FINE : -2);
        for (int p : PEOPLE) {
            for (int doing : new int[] {LEAST, -1, 0, 8, 9, MOST}) {
                boolean can = isPerson(p) && doing >= 0 && doing <= 8;
                dueCode(call("can", p, doing), x.can(p, doing), can ? FINE : -2);
                dueCode(call("would", p, doing), x.would(p, doing), can ? FINE : -2);
            }
        }
        dueSame(before, observed(x), -1);
    }

    private static void stepAndUndo() {
        says("-3 a number can't be");
        LateMirror x = scene(false);
        long[] before = observed(x);
        for (int doings : new int[] {LEAST, -1, 81, 82, 729, MOST}) due(call("step", doings), x.step(doings), -3);
        due("four can be undone", x.count(6), 4);
        for (int n : new int[] {LEAST, -1, 0, 5, 10, 11, MOST}) due(call("undo", n), x.undo(n), -3);
        dueSame(before, observed(x), -1);
        due("undo(4)", x.undo(4), 0);
        LateMirror full = scene(false);
        for (int i = 0; i < 10; i++) full.step(0);
        due("undo(11) of ten", full.undo(11), -3);
        due("undo(10) of ten", full.undo(10), 0);
    }

    private static void arcadeAndFaults() {
        says("-30 less the FAULT: a text.");
        LateMirror x = scene(false);
        long[] before = observed(x);
        for (int n : new int[] {LEAST, -1, 21, MOST}) due(call("arcade", n), x.arcade(n), -3);
        dueSame(before, observed(x), -1);
        String[] texts = {"deep 3;!", "deep 3;deep;", "deep 3;miss 10;", times("thing 0;", 5)};
        int[] places = {7, 11, 12, 32};
        for (int fault = 1; fault <= 4; fault++) {
            LateMirror y = scene(false);
            y.arcade(0);
            y.restore(1);
            long[] then = observed(y);
            feedAll(y, texts[fault - 1]);
            due("arcade()", y.arcade(texts[fault - 1].length()), -30 - fault);
            long[] behind = observed(y);
            due("fault(0)", behind[9], fault);
            due("fault(1)", behind[10], places[fault - 1]);
            due("the tape is empty", behind[7], 0);
            // All but these, and the tape, is as it was.
            behind[9] = then[9];
            behind[10] = then[10];
            dueSame(then, behind, -1);
        }
        says("-5 it can't be now");
        LateMirror z = scene(false);
        for (int i = 0; i < 44; i++) z.feed(0x20202020, 0x20202020, 0x20202020, 0x20202020, 0x20202020);
        before = observed(z);
        due("feed()", z.feed(0x21212121, 0, 0, 0, 0), -5);
        dueSame(before, observed(z), -1);
    }

    private static void hours() {
        says("-6 a TRAY is MISSING");
        LateMirror x = scene(false);
        long[] before = observed(x);
        for (int tray : TRAYS) {
            int code = !isTray(tray) ? -2 : tray == MISSING ? -6 : FINE;
            for (int what : new int[] {LEAST, -1, 0, 1, 2, 3, 4, MOST}) {
                dueCode(call("judge", tray, what), x.judge(tray, what), what < 0 || what > 3 ? -2 : code);
                dueCode(call("fails", tray, what), x.fails(tray, what), what < 0 || what > 1 ? -2 : code);
            }
            if (code != FINE) due(call("perform", tray), x.perform(tray), code);
        }
        // What can't be done at all is no refusal.
        due("perform(2)", x.perform(NO_SUCH_NUMBER), 0);
        dueSame(before, observed(x), -1);
    }

    private static void day() {
        says("-3: how many STEPS; -5: nobody.");
        LateMirror x = scene(false);
        long[] before = observed(x);
        LateMirror nobody = new LateMirror();
        for (int steps : new int[] {LEAST, -1, 0, 61, MOST}) {
            due(call("day", 1, steps), x.day(1, steps), -3);
            due("nobody: " + call("day", 1, steps), nobody.day(1, steps), -3);
        }
        for (int steps = 1; steps <= 60; steps += 59) due("nobody: " + call("day", 1, steps), nobody.day(1, steps), -5);
        due("nobody's steps", nobody.count(5) + nobody.count(6), 0);
        dueSame(before, observed(x), -1);
    }

    private static void round() {
        says("NONE: not so; -2; -6; -4: not 1 to 10 numbers; -3: one is no DOINGS.");
        for (int i = 0; i < 2; i++) {
            LateMirror x = scene(i == 1);
            long[] before = observed(x);
            for (int tray : TRAYS) {
                for (int what : new int[] {LEAST, -1, 0, 1, 2, MOST}) {
                    dueCode(call("round", tray, what), x.round(tray, what), what < 0 || what > 1 ? -2 : trayCode(tray));
                }
            }
            dueSame(before, observed(x), -1);
        }
    }

    private static void soonest() {
        says("SPENT; NONE; -2: the PERSON, the THING (NONE can be), what (10 to 17); -3: no such PLACE (asked, if it is a THING).");
        for (int p : PEOPLE) {
            for (int thing : new int[] {LEAST, -2, -1, 0, 1, 2, MOST}) {
                LateMirror x = scene(false);
                long[] before = observed(x);
                for (int what : new int[] {LEAST, -1, 0, 1, 9, 10, 17, 18, MOST}) {
                    boolean such = isPerson(p) && thing >= -1 && thing <= 1 && (what == 0 || what >= 10 && what <= 17);
                    for (int place : new int[] {LEAST, -1, 3, 4, 13, 14, 23, 24, 33, 34, MOST}) {
                        boolean can = thing == -1 || isOne(place, 3, 13, 23, 33);
                        // Those that are looked for in earnest are few, for they take their time.
                        if (such && can && what == 17) continue;
                        dueCode(call("soonest", p, thing, place, what), x.soonest(p, thing, place, what), !such ? -2 : !can ? -3 : FINE);
                    }
                }
                dueSame(before, observed(x), -1);
            }
        }
    }

    private static void statesAndReach() {
        says("-2; -3.");
        LateMirror x = scene(false);
        long[] before = observed(x);
        for (int p : PEOPLE) {
            for (int n : new int[] {LEAST, -1, 0, 4, 5, MOST}) {
                int code = !isPerson(p) ? -2 : n < 0 || n > 4 ? -3 : FINE;
                dueCode(call("states", p, n), x.states(p, n), code);
                dueCode(call("reach", p, n), x.reach(p, n), code);
            }
        }
        dueSame(before, observed(x), -1);
    }

    private static void laws() {
        says("-2: the TRAY; -6; -4: not 1 to 30 numbers; -3: one is none such (0 to 80).");
        for (int i = 0; i < 2; i++) {
            LateMirror x = scene(i == 1);
            long[] before = observed(x);
            for (int tray : TRAYS) {
                dueCode(call("fits", tray), x.fits(tray), trayCode(tray));
                dueCode(call("sure", tray), x.sure(tray), trayCode(tray));
                for (int what : new int[] {LEAST, -1, 0, 1, 2, MOST}) {
                    int code = what < 0 || what > 1 ? -2 : trayCode(tray);
                    dueCode(call("smallest", tray, what), x.smallest(tray, what), code);
                    dueCode(call("telling", tray, what), x.telling(tray, what), code);
                }
            }
            dueSame(before, observed(x), -1);
        }
    }

    private static void meantAndMaybe() {
        says("-2: the PERSON, the TRAY; -6; -4: not 1 to 5 numbers; -3: one is no CELL.");
        for (int i = 0; i < 2; i++) {
            LateMirror x = scene(i == 1);
            long[] before = observed(x);
            for (int p : new int[] {-1, 0, 1, 2, MOST}) {
                for (int tray : new int[] {-1, 0, 1, 2, 3, 4}) {
                    int code = isPerson(p) ? trayCode(tray) : -2;
                    for (int k : new int[] {LEAST, -1, 0, MOST}) {
                        dueCode(call("meant", p, tray, k), x.meant(p, tray, k), code);
                        dueCode(call("maybe", p, tray, k), x.maybe(p, tray, k), code == FINE && k != 0 ? -3 : code);
                    }
                }
            }
            dueSame(before, observed(x), -1);
        }
    }

    private static void odds() {
        says("-4: not 1 to 8 numbers; -3: the CELL, one is no DOINGS.");
        for (int i = 0; i < 2; i++) {
            LateMirror x = scene(i == 1);
            long[] before = observed(x);
            for (int p : PEOPLE) {
                for (int tray : new int[] {-1, 0, 1, 2, 3, 4}) {
                    int code = isPerson(p) ? trayCode(tray) : -2;
                    for (int cell : new int[] {LEAST, -1, 0, 3, 4, MOST}) {
                        boolean can = cell == 0 || cell == 3;
                        dueCode(call("odds", p, tray, cell), x.odds(p, tray, cell), code == FINE && !can ? -3 : code);
                    }
                }
            }
            dueSame(before, observed(x), -1);
        }
    }

    private static void games() {
        says("A GAME: the WIN (0: none). -3: n, m, late.");
        LateMirror x = scene(false);
        long[] before = observed(x);
        for (int m : new int[] {LEAST, 0, 1, 4, 5, MOST}) {
            for (int late : new int[] {LEAST, -1, 0, 3, 4, MOST}) {
                boolean can = isOne(m, 1, 4) && isOne(late, 0, 3);
                dueCode(call("wins", m, late), x.wins(m, late), can ? FINE : -3);
                for (int n : new int[] {LEAST, -1, 0, 60, 61, MOST}) {
                    dueCode(call("win", n, m, late), x.win(n, m, late), can && isOne(n, 0, 60) ? FINE : -3);
                }
            }
        }
        dueSame(before, observed(x), -1);
    }

    private static void debts() {
        says("-2: no such PERSON, both one; -3: n; -4: it would be above 99,999.");
        for (int p : PEOPLE) {
            LateMirror x = scene(false);
            long[] before = observed(x);
            dueCode(call("balance", p), isPerson(p) ? FINE : x.balance(p, false), isPerson(p) ? FINE : -2);
            dueCode(call("balance there", p), isPerson(p) ? FINE : x.balance(p, true), isPerson(p) ? FINE : -2);
            for (int q : PEOPLE) {
                boolean two = isPerson(p) && isPerson(q) && p != q;
                dueCode(call("owes", p, q), x.owes(p, q, false), two ? FINE : -2);
                dueCode(call("owes there", p, q), x.owes(p, q, true), two ? FINE : -2);
                for (int n : new int[] {LEAST, -1, 0, 1000, MOST}) due(call("lends", p, q, n), x.lends(p, q, n), two ? -3 : -2);
                if (!two) due(call("lends", p, q, 1), x.lends(p, q, 1), -2);
            }
            dueSame(before, observed(x), -1);
        }
    }

    private static void debtsTooMany() {
        says("-4 too many");
        LateMirror x = scene(false);
        for (int i = 0; i < 100; i++) x.lends(0, 1, 999);
        due("40 and 99,900", x.owes(0, 1, false), 99940);
        long[] before = observed(x);
        due("lends(0, 1, 60)", x.lends(0, 1, 60), -4);
        due("lends(0, 1, 999)", x.lends(0, 1, 999), -4);
        due("n comes first", x.lends(0, 1, 1000), -3);
        due("n comes first", x.lends(0, 1, 0), -3);
        due("people come first", x.lends(0, 2, 999), -2);
        dueSame(before, observed(x), -1);
        due("lends(0, 1, 59)", x.lends(0, 1, 59), 99999);
    }

    private static void numbersAndWrite() {
        says("-2: no such TRAY, sort; -3, and the TRAY stays: n is below 0 or above 40.");
        LateMirror x = scene(false);
        long[] before = observed(x);
        for (int tray : TRAYS) {
            for (int sort : new int[] {LEAST, -1, 0, 3, 4, MOST}) {
                boolean can = isTray(tray) && isOne(sort, 0, 3);
                for (int n : new int[] {LEAST, -1, 41, MOST}) due(call("numbers", tray, sort, n), x.numbers(tray, sort, n), can ? -3 : -2);
                if (!can) due(call("numbers", tray, sort, 40), x.numbers(tray, sort, 40), -2);
            }
        }
        dueSame(before, observed(x), -1);
    }

    private static void writeAndLists() {
        says("-7 it has no such number");
        LateMirror x = scene(true);
        long[] before = observed(x);
        int[] sizes = {1, 0, 1, 0};
        for (int tray : TRAYS) {
            int code = !isTray(tray) ? -2 : tray == MISSING ? -6 : FINE;
            if (code != FINE) due(call("lists", tray), x.lists(tray), code);
            for (int i : new int[] {LEAST, -1, 0, 1, 40, MOST}) {
                boolean can = code == FINE && i >= 0 && i < sizes[tray];
                if (!can) due(call("write", tray, i, 5), x.write(tray, i, 5), code == FINE ? -7 : code);
            }
        }
        // One without places takes none.
        due("lists(1)", x.lists(TOO_MANY), 0);
        dueSame(before, observed(x), -1);
    }

    private static void images() {
        says("All that is in an IMAGE is as it was: 0. -2; -5: none was made.");
        LateMirror x = scene(false);
        long[] before = observed(x);
        for (int i : new int[] {LEAST, -1, 2, MOST}) {
            due(call("image", i), x.image(i), -2);
            due(call("restore", i), x.restore(i), -2);
        }
        due("restore(0)", x.restore(0), -5);
        dueSame(before, observed(x), -1);
        due("restore(1)", x.restore(1), 0);
        due("as at its beginning", x.count(5), 0);
    }

    private static void aheadOfSpentAndNone() {
        says("(Of several that which the call tells first; all these ahead of SPENT and NONE.)");
        LateMirror x = told("deep 9;person 0;thing 8;");
        due("spent", x.soonest(0, 0, 0, 0), -1000);
        due("-2 ahead of spent", x.soonest(0, 0, 0, 9), -2);
        due("-2 ahead of -3", x.soonest(0, 0, 9, 9), -2);
        due("-3 ahead of spent", x.soonest(0, 0, 9, 0), -3);
        due("none", x.soonest(0, 0, 8, 10), -1);
        due("-2 ahead of none", x.soonest(1, 0, 8, 10), -2);
        fill(x, 0, 1);
        due("none fits", x.smallest(0, 0), -1);
        due("-2 ahead of none", x.smallest(0, 2), -2);
        fill(x, 1, 1, 81);
        due("-3 ahead of none", x.smallest(1, 0), -3);
        due("-3 ahead of none", x.sure(1), -3);
        due("-3 ahead of none", x.telling(1, 0), -3);
        fill(x, 2, 8);
        due("not so many", x.meant(0, 2, 9), -1);
        fill(x, 2, 8, 9);
        due("-3 ahead of not so many", x.meant(0, 2, 9), -3);
    }
}
