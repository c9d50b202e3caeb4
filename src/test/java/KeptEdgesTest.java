/** Each sentence of ==== 3, and of the promises 27 to 39, that names a boundary case. */
public final class KeptEdgesTest extends Asking {
    private static final String THREE = "person 0;person 1;person 2;";

    public static void main(String[] args) {
        gameBounds();
        gameTurns();
        gameByTrying();
        gameWins();
        lends();
        lendsMost();
        owes();
        balance();
        clearTwos();
        clearThrees();
        clearUndone();
        payments();
        trays();
        numbers();
        writeCut();
        writePlaces();
        lists();
        images();
        restore();
        restoreEach();
        imagesAndTheRest();
        counts();
        apart();
        end();
    }

    // ---- a game

    private static void gameBounds() {
        says("A GAME: n things (0 to 60); I take 1 to m (1 to 4) of them, if there are so many");
        LateMirror x = new LateMirror();
        due("win(0, 4, 3)", x.win(0, 4, 3), 0);
        due("win(60, 1, 0)", x.win(60, 1, 0), 0);
        due("win(59, 1, 0)", x.win(59, 1, 0), 1);
        for (int m = 1; m <= 4; m++) {
            for (int late = 0; late <= 3; late++) {
                due("none to take, " + m + " " + late, x.win(0, m, late), 0);
                due("one, " + m + " " + late, x.win(1, m, late), 1);
                due("sixty can be asked, " + m + " " + late, x.win(60, m, late) < 0 ? 1 : 0, 0);
            }
        }
        says("A GAME: the WIN (0: none). -3: n, m, late.");
        int[] edges = {Integer.MIN_VALUE, -1, 61, Integer.MAX_VALUE};
        for (int n : edges) due("win(" + n + ", 1, 0)", x.win(n, 1, 0), -3);
        for (int m : new int[] {Integer.MIN_VALUE, -1, 0, 5, Integer.MAX_VALUE}) {
            due("win(1, " + m + ", 0)", x.win(1, m, 0), -3);
            due("wins(" + m + ", 0)", x.wins(m, 0), -3);
        }
        for (int late : new int[] {Integer.MIN_VALUE, -1, 4, Integer.MAX_VALUE}) {
            due("win(1, 1, " + late + ")", x.win(1, 1, late), -3);
            due("wins(1, " + late + ")", x.wins(1, late), -3);
        }
    }

    private static void gameTurns() {
        says("(0: just now; none, if I hadn't so many turns; all that are left, if these are fewer)");
        LateMirror x = new LateMirror();
        due("just now: one each", x.win(2, 1, 0), 0);
        due("just now: two of four would leave it two", x.win(4, 2, 0), 1);
        due("all that are left: two of three leave it one", x.win(3, 2, 0), 1);
        // With 1 to 4 at first there is none to copy in the first turns.
        for (int late = 1; late <= 3; late++) {
            for (int n = 1; n <= late + 1; n++) due("so few turns: " + n + " of one each, late " + late, x.win(n, 1, late), 1);
            due("then it copies the first one, late " + late, x.win(late + 2, 1, late), 0);
        }
        due("all that are left: it copies 2 with 1 left", x.win(5, 2, 1), 1);
        says("Who takes the last wins. A WIN is a first number, the least, by which I can win.");
        for (int m = 1; m <= 4; m++) {
            for (int n = 1; n <= m; n++) {
                boolean odd = n % 2 == 1;
                due("all at once or less, " + n + " of " + m, x.win(n, m, 0) > 0 ? 1 : 0, 1);
                if (odd) due("odd ones are won by one each, " + n + " of " + m, x.win(n, m, 0), 1);
                for (int late = 1; late <= 3; late++) due("late ones leave time, " + n + " of " + m, x.win(n, m, late) > 0 ? 1 : 0, 1);
            }
        }
        due("2 of 4: only both at once", x.win(2, 4, 0), 2);
        due("4 of 4: one, one, both", x.win(4, 4, 0), 1);
        due("6 of 4: one, one; then 4", x.win(6, 4, 0), 1);
    }

    /** Whether I win behind taking so many now, tried by each way to go on. */
    private static boolean winsBy(int left, int m, int late, int[] took, int turns, int now) {
        if (now > left) return false;
        took[turns] = now;
        int rest = left - now;
        if (rest == 0) return true;
        int other = turns - late < 0 ? 0 : took[turns - late];
        if (other >= rest) return false;
        for (int next = 1; next <= m; next++) {
            if (winsBy(rest - other, m, late, took.clone(), turns + 1, next)) return true;
        }
        return false;
    }

    private static void gameByTrying() {
        says("then the other as many as I took LATE (0 to 3) turns ago");
        for (int m = 1; m <= 4; m++) {
            LateMirror x = new LateMirror();
            for (int late = 0; late <= 3; late++) {
                for (int n = 0; n <= (m == 1 ? 60 : m == 2 ? 24 : 14); n++) {
                    int least = 0;
                    for (int k = m; k >= 1; k--) if (winsBy(n, m, late, new int[62], 0, k)) least = k;
                    due("win(" + n + ", " + m + ", " + late + ")", x.win(n, m, late), least);
                }
            }
        }
    }

    private static void gameWins() {
        says("How many of n 0 to 60 have a WIN. -3.");
        for (int m = 1; m <= 4; m++) {
            for (int late = 0; late <= 3; late++) {
                LateMirror x = new LateMirror();
                int all = 0;
                for (int n = 0; n <= 60; n++) if (x.win(n, m, late) > 0) all++;
                due("wins(" + m + ", " + late + ")", x.wins(m, late), all);
            }
        }
        due("every other one", new LateMirror().wins(1, 0), 30);
    }

    // ---- debts

    private static void lends() {
        says("PERSON p owes q n more (n 1 to 999): what it owes then.");
        LateMirror x = told(THREE);
        due("lends(0, 1, 1)", x.lends(0, 1, 1), 1);
        due("lends(0, 1, 999)", x.lends(0, 1, 999), 1000);
        due("lends(1, 0, 2)", x.lends(1, 0, 2), 2);
        due("another pair", x.lends(0, 2, 4), 4);
        due("the first again", x.lends(0, 1, 1), 1001);
        for (int n : new int[] {0, -1, 1000, Integer.MIN_VALUE, Integer.MAX_VALUE}) due("lends(0, 1, " + n + ")", x.lends(0, 1, n), -3);
        due("owes(0, 1)", x.owes(0, 1, false), 1001);
        says("-2: no such PERSON, both one; -3: n; -4: it would be above 99,999.");
        for (int p : new int[] {-1, 3, Integer.MIN_VALUE, Integer.MAX_VALUE}) {
            due("lends(" + p + ", 0, 1)", x.lends(p, 0, 1), -2);
            due("lends(0, " + p + ", 1)", x.lends(0, p, 1), -2);
            due("lends(" + p + ", " + p + ", 0)", x.lends(p, p, 0), -2);
        }
        for (int p = 0; p < 3; p++) due("both one", x.lends(p, p, 1), -2);
        LateMirror two = told("person 0;person 0;");
        due("two only", two.lends(0, 2, 1), -2);
        due("two only", two.lends(2, 0, 1), -2);
        LateMirror one = told("person 0;");
        due("one alone", one.lends(0, 0, 1), -2);
        due("one alone", one.lends(0, 1, 1), -2);
        due("nobody", new LateMirror().lends(0, 1, 1), -2);
        due("refused ones can't be undone", x.count(6), 5);
    }

    /** Person p owes q as much as it can but some. */
    private static LateMirror owing(int p, int q, int most) {
        LateMirror x = told(THREE);
        int rest = most;
        while (rest > 0) {
            x.lends(p, q, Math.min(999, rest));
            rest -= Math.min(999, rest);
        }
        return x;
    }

    private static void lendsMost() {
        says("-4: it would be above 99,999.");
        LateMirror x = owing(0, 1, 99000);
        due("1,000 more can't be told at once", x.lends(0, 1, 1000), -3);
        due("999 more", x.lends(0, 1, 999), 99999);
        due("one more", x.lends(0, 1, 1), -4);
        due("999 more", x.lends(0, 1, 999), -4);
        due("all stays", x.owes(0, 1, false), 99999);
        due("ten at most", x.count(6), 10);
        due("the other way there is room", x.lends(1, 0, 999), 999);
        due("the other one, too", x.lends(0, 2, 1), 1);
        LateMirror y = owing(2, 1, 99001);
        due("999 are too many", y.lends(2, 1, 999), -4);
        due("998 are not", y.lends(2, 1, 998), 99999);
        due("undone", y.undo(1), 9);
        due("998 again", y.lends(2, 1, 998), 99999);
    }

    private static void owes() {
        says("DEBTS: PERSON p owes q n (HERE); THERE each COPY is owed what its PERSON owes.");
        LateMirror x = told(THREE);
        for (int p = 0; p < 3; p++) for (int q = 0; q < 3; q++) if (p != q) x.lends(p, q, 1 + 3 * p + q);
        for (int p = -1; p <= 3; p++) {
            for (int q = -1; q <= 3; q++) {
                boolean can = p >= 0 && q >= 0 && p < 3 && q < 3 && p != q;
                due("owes(" + p + ", " + q + ")", x.owes(p, q, false), can ? 1 + 3 * p + q : -2);
                due("owes(" + p + ", " + q + ", there)", x.owes(p, q, true), can ? 1 + 3 * q + p : -2);
            }
        }
        says("What one owes another one, HERE or THERE (of COPIES). -2.");
        for (int p : new int[] {Integer.MIN_VALUE, Integer.MAX_VALUE}) {
            due("owes(" + p + ", 0)", x.owes(p, 0, false), -2);
            due("owes(0, " + p + ", there)", x.owes(0, p, true), -2);
        }
        LateMirror none = told(THREE);
        due("none at first", none.owes(0, 1, false) + none.owes(0, 1, true), 0);
        due("nobody", new LateMirror().owes(0, 1, false), -2);
        due("one alone", told("person 0;").owes(0, 1, false), -2);
    }

    private static void balance() {
        says("BALANCE of a PERSON: what it is owed less what it owes.");
        LateMirror x = told(THREE);
        x.lends(0, 1, 100);
        x.lends(1, 0, 30);
        x.lends(2, 0, 5);
        int[] here = {-65, 70, -5};
        for (int p = 0; p < 3; p++) {
            due("balance(" + p + ")", x.balance(p, false), here[p]);
            due("balance(" + p + ", there)", x.balance(p, true), -here[p]);
        }
        says("BALANCE HERE, or THERE. -2.");
        for (int p : new int[] {-1, 3, Integer.MIN_VALUE, Integer.MAX_VALUE}) {
            due("balance(" + p + ")", x.balance(p, false), -2);
            due("balance(" + p + ", there)", x.balance(p, true), -2);
        }
        due("one alone", told("person 0;").balance(0, false), 0);
        due("nobody", new LateMirror().balance(0, true), -2);
        LateMirror most = owing(0, 1, 99999);
        for (int i = 0; i < 101; i++) most.lends(0, 2, i < 100 ? 999 : 99);
        due("it owes as much as it can", most.balance(0, false), -199998);
        due("there it is owed that", most.balance(0, true), 199998);
    }

    private static void dueDebts(LateMirror x, int... debts) {
        int[][] pairs = {{0, 1}, {1, 0}, {0, 2}, {2, 0}, {1, 2}, {2, 1}};
        for (int i = 0; i < 6; i++) {
            due("owes(" + pairs[i][0] + ", " + pairs[i][1] + ")", x.owes(pairs[i][0], pairs[i][1], false), debts[i]);
        }
    }

    private static LateMirror withDebts(int... debts) {
        int[][] pairs = {{0, 1}, {1, 0}, {0, 2}, {2, 0}, {1, 2}, {2, 1}};
        LateMirror x = told(THREE);
        for (int i = 0; i < 6; i++) if (debts[i] > 0) x.lends(pairs[i][0], pairs[i][1], debts[i]);
        return x;
    }

    private static void clearTwos() {
        says("To CLEAR: rings of two (by p, q in order)");
        LateMirror x = withDebts(5, 3, 2, 9, 4, 4);
        due("clear()", x.clear(), 6 + 4 + 8);
        dueDebts(x, 2, 0, 0, 7, 0, 0);
        due("nothing is left to clear", x.clear(), 0);
        LateMirror one = withDebts(1, 1, 0, 0, 0, 0);
        due("one each", one.clear(), 2);
        dueDebts(one, 0, 0, 0, 0, 0, 0);
        due("no ring", withDebts(9, 0, 9, 0, 9, 0).clear(), 0);
        due("no debts", told(THREE).clear(), 0);
        due("nobody", new LateMirror().clear(), 0);
        due("one alone", told("person 0;").clear(), 0);
        LateMirror two = told("person 0;person 1;");
        two.lends(0, 1, 8);
        two.lends(1, 0, 8);
        due("two", two.clear(), 16);
        due("owes(0, 1)", two.owes(0, 1, false) + two.owes(1, 0, false), 0);
        LateMirror most = owing(0, 1, 99999);
        for (int i = 0; i < 101; i++) most.lends(1, 0, i < 100 ? 999 : 99);
        due("as much as can be", most.clear(), 199998);
    }

    private static void clearThrees() {
        says("then rings of three (0 1 2, then 0 2 1): the least that one of it owes the next is taken off all of it.");
        LateMirror x = withDebts(5, 0, 0, 3, 4, 0);
        due("0 1 2", x.clear(), 9);
        dueDebts(x, 2, 0, 0, 0, 1, 0);
        LateMirror y = withDebts(0, 6, 5, 0, 0, 7);
        due("0 2 1", y.clear(), 15);
        dueDebts(y, 0, 1, 0, 0, 0, 2);
        // Twos come first: threes only by what they leave.
        LateMirror z = withDebts(5, 5, 0, 3, 4, 0);
        due("a two, then no three", z.clear(), 10);
        dueDebts(z, 0, 0, 0, 3, 4, 0);
        LateMirror w = withDebts(9, 2, 1, 8, 7, 3);
        due("three twos, then a three", w.clear(), 4 + 2 + 6 + 3 * 4);
        dueDebts(w, 3, 0, 0, 3, 0, 0);
        LateMirror v = withDebts(2, 9, 8, 1, 3, 7);
        due("three twos, then the other three", v.clear(), 4 + 2 + 6 + 3 * 4);
        dueDebts(v, 0, 3, 3, 0, 0, 0);
        LateMirror open = withDebts(5, 0, 4, 0, 3, 0);
        due("no ring: two ways to one", open.clear(), 0);
        dueDebts(open, 5, 0, 4, 0, 3, 0);
    }

    private static void clearUndone() {
        says("To CLEAR: how much was taken off in all.");
        LateMirror x = withDebts(5, 3, 0, 0, 0, 0);
        due("two calls", x.count(6), 2);
        due("clear()", x.clear(), 6);
        due("three calls", x.count(6), 3);
        due("clear() of nothing", x.clear(), 0);
        due("which can't be undone", x.count(6), 3);
        due("undo(1)", x.undo(1), 2);
        dueDebts(x, 5, 3, 0, 0, 0, 0);
        due("no step", x.count(5), 0);
        // All but the debts stays.
        LateMirror y = told("deep 3;person 0 late 0;person 1 late 0;person 2;thing 0;thing 1 there;");
        y.day(8, 9);
        y.step(3 + 9 * 2 + 81);
        long[] before = observed(y);
        y.lends(0, 1, 6);
        y.lends(1, 0, 6);
        due("clear()", y.clear(), 12);
        dueSame(before, observed(y), 6);
    }

    private static void payments() {
        says("The fewest payments (each by one to another one) by which all debts were settled.");
        int[][] debts = {{0, 0, 0, 0, 0, 0}, {1, 0, 0, 0, 0, 0}, {4, 4, 0, 0, 0, 0}, {4, 3, 0, 0, 0, 0}, {5, 0, 0, 5, 5, 0},
            {5, 0, 0, 0, 5, 0}, {5, 0, 0, 0, 6, 0}, {5, 0, 5, 0, 0, 0}, {0, 5, 0, 5, 0, 0}, {9, 0, 0, 4, 5, 0},
            {9, 2, 1, 8, 7, 3}, {3, 0, 2, 0, 0, 2}, {1, 2, 3, 4, 5, 6}, {1, 1, 2, 2, 3, 3}};
        for (int[] d : debts) {
            LateMirror x = withDebts(d);
            due("payments()", x.payments(), fewest(d));
            due("nothing was paid", x.owes(0, 1, false), d[0]);
            x.clear();
            due("payments() behind clear()", x.payments(), fewest(d));
        }
        due("nobody", new LateMirror().payments(), 0);
        due("one alone", told("person 0;").payments(), 0);
        LateMirror two = told("person 0;person 1;");
        two.lends(1, 0, 3);
        due("of two", two.payments(), 1);
    }

    /** Two payments always do for three people; tried are none and each of one. */
    private static int fewest(int[] d) {
        int[] balance = {d[1] + d[3] - d[0] - d[2], d[0] + d[5] - d[1] - d[4], d[2] + d[4] - d[3] - d[5]};
        if (balance[0] == 0 && balance[1] == 0 && balance[2] == 0) return 0;
        for (int p = 0; p < 3; p++) {
            for (int q = 0; q < 3; q++) {
                int third = 3 - p - q;
                if (p != q && balance[p] < 0 && balance[p] + balance[q] == 0 && balance[third] == 0) return 1;
            }
        }
        return 2;
    }

    // ---- trays

    private static void trays() {
        says("TRAYS 0 to 3 are MISSING at first, or have 0 to 40 numbers of 8 bits (sort 0), 16 (1), 32 (2), 64 (3).");
        LateMirror x = told("deep 3;person 1;thing 2;");
        for (int tray = 0; tray < 4; tray++) {
            due("missing: judge()", x.judge(tray, 0), -6);
            due("missing: perform()", x.perform(tray), -6);
            due("missing: fails()", x.fails(tray, 0), -6);
            due("missing: round()", x.round(tray, 0), -6);
            due("missing: fits()", x.fits(tray), -6);
            due("missing: smallest()", x.smallest(tray, 0), -6);
            due("missing: sure()", x.sure(tray), -6);
            due("missing: telling()", x.telling(tray, 0), -6);
            due("missing: meant()", x.meant(0, tray, 0), -6);
            due("missing: maybe()", x.maybe(0, tray, 0), -6);
            due("missing: odds()", x.odds(0, tray, 0), -6);
            due("missing: write()", x.write(tray, 0, 0), -6);
            due("missing: lists()", x.lists(tray), -6);
        }
        for (int tray = 0; tray < 4; tray++) {
            due("numbers(" + tray + ", 0, 0)", x.numbers(tray, 0, 0), 0);
            due("empty, not missing: judge()", x.judge(tray, 1), 0);
            due("empty, not missing: perform()", x.perform(tray), 0);
            due("empty, not missing: write()", x.write(tray, 0, 0), -7);
            due("empty, not missing: lists()", x.lists(tray), 0);
            for (int later = tray + 1; later < 4; later++) due("the others still are", x.judge(later, 1), -6);
        }
        // They stay when another arcade is told.
        fill(x, 0, 1, 2, 3);
        tell(x, "person 0;");
        due("as before", x.judge(0, 1), 3);
    }

    private static void numbers() {
        says("A TRAY has n numbers of a sort, all 0 (in place of another one): 0.");
        LateMirror x = told("deep 9;person 4;");
        for (int n = 0; n <= 40; n++) {
            due("numbers(2, 1, " + n + ")", x.numbers(2, 1, n), 0);
            due("so many", x.judge(2, 1), n);
            due("all are 0", x.perform(2) + x.person(0, 0) + Math.max(0, x.person(0, 4)), n + 4);
            due("the last place", x.write(2, n - 1, 9), n == 0 ? -7 : 9);
            due("behind the last", x.write(2, n, 9), -7);
        }
        says("-2: no such TRAY, sort; -3, and the TRAY stays: n is below 0 or above 40.");
        LateMirror y = told("person 0;");
        fill(y, 0, 5, 6, 7);
        y.numbers(0, 0, 3);
        y.write(0, 2, 9);
        for (int n : new int[] {-1, 41, Integer.MIN_VALUE, Integer.MAX_VALUE}) {
            due("numbers(0, 3, " + n + ")", y.numbers(0, 3, n), -3);
            due("the tray stays", y.judge(0, 0), 2);
            due("and its sort", y.write(0, 1, 256), 0);
            due("one that is missing", y.numbers(1, 0, n), -3);
            due("is so still", y.judge(1, 0), -6);
            due("no such tray", y.numbers(4, 0, n), -2);
            due("no such sort", y.numbers(0, 4, n), -2);
        }
        for (int no : new int[] {-1, 4, Integer.MIN_VALUE, Integer.MAX_VALUE}) {
            due("numbers(" + no + ", 0, 1)", y.numbers(no, 0, 1), -2);
            due("numbers(0, " + no + ", 1)", y.numbers(0, no, 1), -2);
            due("the tray stays", y.judge(0, 0), 2);
        }
        for (int sort = 0; sort < 4; sort++) due("sort " + sort, y.numbers(3, sort, 1), 0);
        // Fewer, then more again: what was there is gone.
        LateMirror z = told("person 0;");
        fill(z, 0, 9, 9, 9, 9);
        z.numbers(0, 3, 1);
        z.numbers(0, 3, 4);
        due("all are 0", z.judge(0, 1), 4);
    }

    private static void writeCut() {
        says("Number i of a TRAY is v, cut to its sort: as it is there.");
        LateMirror x = told("person 0;person 0;");
        int[] bits = {8, 16, 32, 64};
        for (int sort = 0; sort < 4; sort++) {
            x.numbers(0, sort, 1);
            long top = 1L << (bits[sort] - 1);
            due("the most", x.write(0, 0, top - 1), top - 1);
            due("one more wraps around", x.write(0, 0, top), sort == 3 ? top : -top);
            due("the least", x.write(0, 0, -top), sort == 3 ? Long.MIN_VALUE : -top);
            due("one less wraps around", x.write(0, 0, -top - 1), top - 1);
            due("-1", x.write(0, 0, -1), -1);
            due("0", x.write(0, 0, 0), 0);
            due("all bits", x.write(0, 0, 2 * top - 1), -1);
            if (sort < 3) due("one bit behind", x.write(0, 0, 2 * top), 0);
            due("the least of all", x.write(0, 0, Long.MIN_VALUE), sort == 3 ? Long.MIN_VALUE : 0);
            due("the most of all", x.write(0, 0, Long.MAX_VALUE), sort == 3 ? Long.MAX_VALUE : -1);
        }
        // As it is there, it is read: 256 and 5 are 5 doings in 8 bits, none such in 16.
        x.numbers(0, 0, 1);
        x.write(0, 0, 256 + 5);
        due("8 bits", x.judge(0, 0), -1);
        x.numbers(0, 1, 1);
        x.write(0, 0, 256 + 5);
        due("16 bits", x.judge(0, 0), 0);
        x.write(0, 0, 65536 + 5);
        due("16 bits, cut", x.judge(0, 0), -1);
        x.numbers(0, 2, 1);
        x.write(0, 0, 65536 + 5);
        due("32 bits", x.judge(0, 0), 0);
        x.write(0, 0, (1L << 32) + 5);
        due("32 bits, cut", x.judge(0, 0), -1);
        x.numbers(0, 3, 1);
        x.write(0, 0, (1L << 32) + 5);
        due("64 bits", x.judge(0, 0), 0);
    }

    private static void writePlaces() {
        says("-2: no such TRAY; -6; -7.");
        LateMirror x = told("person 0;person 0;");
        x.numbers(1, 3, 40);
        for (int i : new int[] {-1, 40, 41, Integer.MIN_VALUE, Integer.MAX_VALUE}) {
            due("write(1, " + i + ", 80)", x.write(1, i, 80), -7);
            due("write(0, " + i + ", 80)", x.write(0, i, 80), -6);
            for (int tray : new int[] {-1, 4, Integer.MIN_VALUE, Integer.MAX_VALUE}) {
                due("write(" + tray + ", " + i + ", 80)", x.write(tray, i, 80), -2);
            }
        }
        due("all stays", x.judge(1, 1), 40);
        for (int i = 0; i < 40; i++) due("write(1, " + i + ")", x.write(1, i, 41 + i), 41 + i);
        dueNumbers(x, 1, 40, 41);
    }

    /** A tray's numbers go up from the first: looked at from the last on, each as the doings of the last step. */
    private static void dueNumbers(LateMirror x, int tray, int n, int first) {
        for (int i = n - 1; i >= 0; i--) {
            due("so many", x.perform(tray), i + 1);
            due("number " + i, x.person(0, 4) + 9 * x.person(1, 4), first + i);
            x.undo(1);
            x.write(tray, i, -1);
        }
    }

    private static void lists() {
        says("PLACES of THINGS come into a TRAY, as many as it has places: how many. -2; -6.");
        int[] places = {8, 10, 0, 18};
        String[] things = {"thing 8;", "thing 0 there;", "thing 0;", "thing 8 there;"};
        for (int many = 0; many <= 4; many++) {
            StringBuilder text = new StringBuilder("deep 9;person 4;person 4;");
            for (int t = 0; t < many; t++) text.append(things[t]);
            for (int size = 0; size <= 6; size++) {
                LateMirror x = told(text.toString());
                x.numbers(0, size % 4, size);
                for (int i = 0; i < size; i++) x.write(0, i, 70 + i);
                int listed = Math.min(many, size);
                due("lists(0) of " + many + " in " + size, x.lists(0), listed);
                for (int i = size - 1; i >= 0; i--) {
                    due("so many", x.perform(0), i + 1);
                    due("place " + i, x.person(0, 4) + 9 * x.person(1, 4), i < listed ? places[i] : 70 + i);
                    x.undo(1);
                    x.write(0, i, -1);
                }
            }
        }
        // Where they are now, hands too.
        LateMirror x = told("deep 9;person 4;person 4;person 4 late 0;thing 4;thing 4 there;");
        x.step(81 * 4);
        x.numbers(3, 0, 40);
        due("lists(3)", x.lists(3), 2);
        x.write(3, 2, -1);
        x.perform(3);
        due("the copy's left hand", x.person(0, 4) + 9 * x.person(1, 4) + 81 * x.person(2, 4), 34);
        x.undo(1);
        x.write(3, 1, -1);
        x.perform(3);
        due("its right hand", x.person(0, 4) + 9 * x.person(1, 4) + 81 * x.person(2, 4), 25);
        for (int tray : new int[] {-1, 4, Integer.MIN_VALUE, Integer.MAX_VALUE}) due("lists(" + tray + ")", x.lists(tray), -2);
        due("lists(0)", x.lists(0), -6);
    }

    // ---- images

    private static void images() {
        says("IMAGES 0 to 1");
        LateMirror x = told("person 0;");
        for (int i : new int[] {-1, 2, Integer.MIN_VALUE, Integer.MAX_VALUE}) {
            due("image(" + i + ")", x.image(i), -2);
            due("restore(" + i + ")", x.restore(i), -2);
        }
        says("(none at first)");
        due("restore(0)", x.restore(0), -5);
        due("restore(1)", x.restore(1), -5);
        due("image(1)", x.image(1), 0);
        due("restore(0), still", x.restore(0), -5);
        due("restore(1)", x.restore(1), 0);
        due("image(0)", x.image(0), 0);
        due("restore(0)", x.restore(0), 0);
        LateMirror empty = new LateMirror();
        due("of a new one", empty.image(0), 0);
        tell(empty, "deep 9;person 8;thing 7;rule:1=1 do to;miss 3;");
        due("restore(0)", empty.restore(0), 0);
        int[] counts = {5, 0, 0, 0, 0, 0, 0, 0, 0};
        for (int i = 0; i < 9; i++) due("count(" + i + ")", empty.count(i), counts[i]);
    }

    private static void restore() {
        says("THE ARCADE and all that a call could bring back by UNDOING; nothing can be UNDONE behind");
        String text = "deep 4;miss 6;person 1 late 4;person 0 late 0;thing 1;thing 0 there;rule 0:bored=5 do fro;";
        LateMirror x = told(text);
        x.step(3 + 9 * 4);
        x.step(2 + 9 * 7);
        x.lends(0, 1, 5);
        x.image(0);
        due("what could be undone still can", x.count(6), 3);
        long[] before = observed(x);
        x.lends(1, 0, 4);
        x.clear();
        x.day(3, 9);
        tell(x, "deep 9;person 8;rule:1=1 do to;rule:1=1 do to;");
        x.step(1);
        due("restore(0)", x.restore(0), 0);
        // Nothing can be undone now, all else is as it was.
        dueSame(before, observed(x), 6);
        due("nothing can be undone", x.count(6), 0);
        due("undo(1)", x.undo(1), -3);
        x.step(0);
        due("but what is done then", x.undo(1), 0);
        x.day(9, 60);
        due("an image can be gone on from again", x.restore(0), 0);
        dueSame(before, observed(x), 6);
    }

    private static void restoreEach() {
        says("All that is in an IMAGE is as it was: 0. -2; -5: none was made.");
        LateMirror x = told("deep 3;person 0;");
        x.image(0);
        tell(x, "deep 4;person 1;person 2;");
        x.step(9);
        x.image(1);
        tell(x, "deep 5;");
        due("restore(0)", x.restore(0), 0);
        due("the one", x.count(0) * 10 + x.count(1), 31);
        due("restore(1)", x.restore(1), 0);
        due("the other", x.count(0) * 10 + x.count(1), 42);
        due("its steps", x.count(5), 1);
        due("its lines", x.count(8), 3);
        x.step(0);
        x.image(1);
        x.step(0);
        due("restore(1)", x.restore(1), 0);
        due("an image in place of another one", x.count(5), 2);
        x.step(0);
        due("an image stays as it was made", x.restore(1) + x.count(5), 2);
        due("the first, too", x.restore(0) + x.count(5) + x.count(0), 3);
    }

    private static void imagesAndTheRest() {
        says("An IMAGE is made: 0. -2.");
        // The tape, faults and trays are no part of it.
        LateMirror x = told("deep 3;person 0;");
        fill(x, 0, 1, 2);
        x.image(0);
        x.feed(0x20202020, 0x20202020, 0x20202020, 0x20202020, 0x20202021);
        fill(x, 0, 1, 2, 3);
        due("restore(0)", x.restore(0), 0);
        due("the tape", x.count(7), 20);
        due("the tray", x.judge(0, 1), 3);
        due("a fault", x.arcade(20), -31);
        due("restore(0)", x.restore(0), 0);
        due("fault(0)", x.fault(0), 1);
        due("fault(1)", x.fault(1), 19);
    }

    private static void counts() {
        says("0 how deep, 1 PEOPLE, 2 THINGS, 3 RULES, 4 MISS, 5 STEPS since THE ARCADE was told, 6 calls that can be UNDONE, 7 bytes on THE TAPE, 8 LINES. NONE for others.");
        LateMirror x = told("deep 8;miss 7;person 7;person 7;thing 7;thing 7;thing 7;rule:1=1 do to;");
        x.step(0);
        x.day(1, 60);
        x.step(0);
        x.lends(0, 1, 1);
        x.feed(0, 0, 0, 0, 0);
        int[] all = {8, 2, 3, 1, 7, 62, 4, 20, 8};
        for (int what = 0; what < 9; what++) due("count(" + what + ")", x.count(what), all[what]);
        for (int what : new int[] {-1, 9, 10, Integer.MIN_VALUE, Integer.MAX_VALUE}) due("count(" + what + ")", x.count(what), -1);
        x.arcade(0);
        due("since the arcade was told", x.count(5), 0);
        LateMirror most = told("deep 9;miss 9;" + times("person 0;", 3) + times("thing 0;", 4) + times("rule:1=1 do to;", 8));
        int[] full = {9, 3, 4, 8, 9, 0, 0, 0, 17};
        for (int what = 0; what < 9; what++) due("count(" + what + ")", most.count(what), full[what]);
    }

    private static void apart() {
        says("`LateMirror()`: 5 deep, nobody.");
        // What one object is told is no matter to another one.
        LateMirror x = new LateMirror();
        LateMirror y = told("deep 9;person 8;person 1;thing 7;rule:1=1 do to;miss 3;");
        y.feed(0, 0, 0, 0, 0);
        y.image(0);
        y.step(1);
        y.lends(0, 1, 3);
        fill(y, 0, 1, 2, 3);
        int[] counts = {5, 0, 0, 0, 0, 0, 0, 0, 0};
        for (int i = 0; i < 9; i++) due("count(" + i + ")", x.count(i), counts[i]);
        due("restore(0)", x.restore(0), -5);
        due("judge(0, 0)", x.judge(0, 0), -6);
        due("payments()", x.payments(), 0);
        LateMirror z = new LateMirror();
        for (int i = 0; i < 9; i++) due("count(" + i + ")", z.count(i), counts[i]);
    }
}
