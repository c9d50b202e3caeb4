/** Each sentence of ==== 3, and of the promises 17 to 26, that names a boundary case. */
public final class SoughtEdgesTest extends Asking {
    private static final int[] OTHER_HAND = {0, 1, 2, 4, 3, 6, 5, 8, 7};
    private static final int[] NINES = {1, 9, 81, 729, 6561, 59049};
    private static final int SPENT = -1000;
    private static final int TO = 1;
    private static final int FRO = 2;
    private static final int TAKEL = 3;
    private static final int TAKER = 4;
    private static final int PUTL = 5;
    private static final int REACHL = 7;
    private static final int REACHR = 8;

    public static void main(String[] args) {
        alike();
        alikeEach();
        alikeCells();
        alikeBored();
        alikeTold();
        soonestSteps();
        soonestPassing();
        soonestFirst();
        soonestOthersStay();
        soonestSpent();
        soonestWhat();
        soonestPlaces();
        fromZeroOn();
        states();
        reach();
        reachEach();
        seenNumbers();
        seenFromTheFirst();
        lawsLate();
        lawsLeftOut();
        smallest();
        sure();
        telling();
        tellingByTrying();
        tellingFewerThanTwo();
        meantNumbers();
        meantRows();
        meantOthersStay();
        meantK();
        maybe();
        oddsNumbers();
        oddsOfEach();
        oddsLate();
        oddsOthers();
        oddsNothingElse();
        end();
    }

    // ---- sought

    private static void dueRound(LateMirror x, String why, int behind, int more) {
        due(why + ": behind how many", x.round(0, 1), behind);
        due(why + ": how many more", x.round(0, 0), more);
    }

    private static void alike() {
        says("ALIKE are two states, if CELLS, THINGS, BORED, what PEOPLE were told to do in the last 4 STEPS, debts are so.");
        // Nothing changes but what was told: four times that, and all is as behind one more.
        LateMirror told = told("deep 9;person 4 late 0;");
        fill(told, 0, REACHL);
        dueRound(told, "told", 4, 1);
        LateMirror another = told("deep 9;person 4 late 0;person 4 late 0;person 4 late 0;");
        fill(another, 0, 91 * REACHL);
        dueRound(another, "all are told", 4, 1);
        for (int times = 0; times < 6; times++) {
            dueRound(told, "told already " + times, Math.max(0, 4 - times), 1);
            told.step(REACHL);
        }
        LateMirror cells = told("deep 9;person 8 late 0;");
        fill(cells, 0, TO);
        dueRound(cells, "its cell", 8, 1);
        LateMirror copies = told("deep 9;person 8 late 4;");
        fill(copies, 0, TO);
        dueRound(copies, "its copy's cell", 12, 1);
        LateMirror bored = told("deep 9;person 8;");
        fill(bored, 0, 0);
        dueRound(bored, "bored", 9, 1);
        // One of four things at a time comes to the frame.
        LateMirror things = told("deep 2;person 1 late 0;thing 1;thing 1;thing 1;thing 1;");
        fill(things, 0, TAKEL, TO, PUTL, FRO);
        dueRound(things, "things", 4, 1);
        // Steps change no debts: with them all comes round as without.
        LateMirror debts = told("deep 9;person 4 late 0;person 4 late 0;");
        debts.lends(0, 1, 7);
        fill(debts, 0, 10 * REACHL);
        dueRound(debts, "debts", 4, 1);
        // Hands, too: what is held left is not what is held right.
        LateMirror hands = told("deep 2;person 0 late 0;thing 0;rule:1=1 do to;");
        fill(hands, 0, TAKEL, PUTL, TAKER);
        dueRound(hands, "the right hand holds it", 2, 1);
    }

    private static void alikeEach() {
        says("ALIKE are two states, if CELLS, THINGS, BORED, what PEOPLE were told to do in the last 4 STEPS, debts are so.");
        String[] others = {"person 4 late 0;", "person 4 late 0;", "person 4 late 0;"};
        for (int p = 0; p < 3; p++) {
            // All but this one reach in vain, which they can go on with from the fourth step on.
            int rest = REACHL * (91 - NINES[p]);
            String[] people = others.clone();
            people[p] = "person 8 late 0;";
            LateMirror cell = told("deep 9;" + String.join("", people) + "rule:1=1 do stay;");
            fill(cell, 0, rest + TO * NINES[p]);
            dueRound(cell, "the cell of " + p, 8, 1);
            LateMirror copyCell = told("deep 9;" + String.join("", people) + "rule " + p + ":1=1 do to;");
            fill(copyCell, 0, rest + REACHR * NINES[p]);
            dueRound(copyCell, "the copy's cell of " + p, 8, 1);
            LateMirror bored = told("deep 9;" + String.join("", people));
            fill(bored, 0, rest);
            dueRound(bored, "how bored the copy is of " + p, 9, 1);
            // It was told something else once: four steps ago that still counts, five steps ago no more.
            LateMirror told = told("deep 9;" + String.join("", people) + "rule:1=1 do stay;");
            for (int i = 0; i < 5; i++) told.step(rest + REACHL * NINES[p]);
            for (int i = 0; i <= 5; i++) {
                fill(told, 0, rest + REACHL * NINES[p]);
                dueRound(told, "what " + p + " was told " + i + " steps ago", i == 0 ? 0 : 5 - i, 1);
                told.step(i == 0 ? rest + REACHR * NINES[p] : rest + REACHL * NINES[p]);
            }
        }
        for (int t = 0; t < 4; t++) {
            // This one goes from hand to ground: all others lie elsewhere.
            StringBuilder text = new StringBuilder("deep 3;person 1 late 0;");
            for (int i = 0; i < 4; i++) text.append(i == t ? "thing 1 there;" : "thing 2;");
            LateMirror x = told(text + "rule:left=0 do takel;rule:left=1 do putl;");
            fill(x, 0, REACHL);
            dueRound(x, "thing " + t, 4, 2);
        }
    }

    private static void alikeCells() {
        says("ALIKE are two states, if CELLS, THINGS, BORED, what PEOPLE were told to do in the last 4 STEPS, debts are so.");
        // One is at 0, then at 4, then at 8, and all else is as it was, wherever the others are.
        for (int others = 0; others < 9; others++) {
            for (int p = 0; p < 3; p++) {
                StringBuilder text = new StringBuilder("deep 9;");
                for (int q = 0; q < 3; q++) text.append("person ").append(q == p ? 0 : others).append(" late 0;");
                String why = " of " + p + ", others at " + others;
                dueFarther("the cell" + why, told(text + "rule:1=1 do stay;"), p, FRO);
                dueFarther("the copy's cell" + why, told(text + "rule:late=6 do fro;"), p, PUTL);
            }
        }
    }

    /** Told so four times, then to stay as often: each time all is as it was, but for one cell that is four farther. */
    private static void dueFarther(String why, LateMirror x, int p, int doing) {
        for (int i = 0; i < 5; i++) x.step(0);
        x.step(REACHL * NINES[p]);
        for (int i = 0; i < 4; i++) x.step(0);
        for (int q = 0; q < 3; q++) due(why + ": bored", x.copy(q, 1), q == p ? 4 : 9);
        int told = doing * NINES[p];
        fill(x, 0, told, told, told, told, 0, 0, 0, 0);
        dueRound(x, why, 2, 1);
    }

    private static void alikeBored() {
        says("BORED is how many STEPS on end, this one too, it was stay (9 at most).");
        // Late by 4, a copy is as bored by what was told longer ago than states are compared by.
        for (int p = 0; p < 3; p++) {
            for (int place = 0; place < 9; place++) {
                for (int bored = 0; bored <= 9; bored++) {
                    LateMirror x = told("deep 9;" + times("person 4 late 4;", 3) + times("thing " + place + ";", 4));
                    for (int i = 0; i < 14; i++) x.step(0);
                    x.step(REACHL * NINES[p]);
                    for (int i = 0; i < 4 + bored; i++) x.step(0);
                    due("bored", x.copy(p, 1), bored);
                    due("the next one is as bored as can be", x.copy((p + 1) % 3, 1), 9);
                    String why = "copy " + p + " bored by " + bored + ", things at " + place;
                    fill(x, 0, 0);
                    dueRound(x, why, 9 - bored, 1);
                    fill(x, 0, 0, 0, 0, 0, 0, 0, 0, 0);
                    dueRound(x, why + ", by eights", (9 - bored + 7) / 8, 1);
                }
            }
        }
    }

    private static void alikeTold() {
        says("what PEOPLE were told to do in the last 4 STEPS");
        // Once it was told something else, four steps ago; its copy comes to that only now. Others do the same all the time.
        for (int p = 0; p < 3; p++) {
            for (int once = TAKEL; once <= REACHR; once++) {
                for (int other = TAKEL; other <= REACHR; other++) {
                    LateMirror x = told("deep 9;" + times("person 4 late 4;", 3));
                    int others = other * (91 - NINES[p]);
                    for (int i = 0; i < 16; i++) x.step(others);
                    fill(x, 0, others, others, others, others, others, others, others, others, others, others);
                    String why = p + " told " + once + ", others " + other;
                    dueRound(x, why + ": ahead", 0, 1);
                    x.step(others + once * NINES[p]);
                    for (int i = 0; i < 3; i++) x.step(others);
                    due("not come yet", x.copy(p, 1), 9);
                    dueRound(x, why, 1, 1);
                }
            }
        }
    }

    private static void dueWay(LateMirror x, int p, int thing, int place, int... doings) {
        String call = "soonest(" + p + ", " + thing + ", " + place + ", ";
        due(call + "0)", x.soonest(p, thing, place, 0), doings.length);
        for (int k = 0; k < 8; k++) {
            due(call + (10 + k) + ")", x.soonest(p, thing, place, 10 + k), k < doings.length ? doings[k] : -1);
        }
    }

    private static void dueSpent(LateMirror x, int p, int thing, int place) {
        String call = "soonest(" + p + ", " + thing + ", " + place + ", ";
        due(call + "0)", x.soonest(p, thing, place, 0), SPENT);
        for (int k = 0; k < 8; k++) due(call + (10 + k) + ")", x.soonest(p, thing, place, 10 + k), SPENT);
    }

    private static void soonestSteps() {
        says("the fewest STEPS (0 to 8) till a THING is at a PLACE");
        LateMirror x = told("deep 9;person 0 late 0;thing 0;thing 8 there;");
        dueWay(x, 0, 0, 0);
        dueWay(x, 0, 1, 18);
        dueWay(x, 0, 0, 20, TAKEL);
        dueWay(x, 0, 0, 21, TAKER);
        dueWay(x, 0, 0, 31, TAKEL, REACHL);
        dueWay(x, 0, 0, 30, TAKER, REACHR);
        dueWay(x, 0, 0, 1, TAKEL, FRO, PUTL);
        // It is laid down there by the copy, whose right hand is told as its person's left one.
        dueWay(x, 0, 0, 10, TAKEL, REACHL, PUTL);
        dueWay(x, 0, 0, 2, TAKEL, FRO, FRO, PUTL);
        dueWay(x, 0, 0, 11, TAKEL, REACHL, FRO, PUTL);
        due("as if done", x.count(5) + x.count(6), 0);
        x.step(TAKEL);
        dueWay(x, 0, 0, 20);
        dueWay(x, 0, 0, 0, PUTL);
        dueWay(x, 0, 0, 3, FRO, FRO, FRO, PUTL);
    }

    private static void soonestPassing() {
        says("or one has passed in the last of them (THING NONE)");
        LateMirror x = told("deep 2;person 0 late 0;thing 0;");
        dueWay(x, 0, -1, 0, TAKEL, REACHL);
        x.step(TAKER);
        dueWay(x, 0, -1, 0, REACHR);
        due("it passed", x.step(REACHR), 1);
        // What passed ahead of now is no matter, nor where it lies; none of no steps has passed.
        dueWay(x, 0, -1, 0, REACHR);
        LateMirror late = told("deep 2;person 0 late 2;thing 0;");
        late.step(TAKEL);
        dueWay(late, 0, -1, 0, REACHL, 0, REACHL);
        // The copy reaches by itself, its person needs but to answer.
        LateMirror rule = told("deep 2;person 0 late 4;thing 0 there;rule:right=0 do taker;rule:right=1 do reachr;");
        dueWay(rule, 0, -1, 0, 0, REACHL);
    }

    private static void soonestFirst() {
        says("of like ones the first by DOINGS");
        // Whatever is told, its copy takes what it was told one step ago.
        LateMirror x = told("deep 2;person 0;thing 0 there;");
        x.step(TAKEL);
        dueWay(x, 0, 0, 31, 0);
        // By the left hand and by the right one.
        LateMirror y = told("deep 3;person 1 late 0;thing 1;");
        dueWay(y, 0, 0, 0, TAKEL, TO, PUTL);
        dueWay(y, 0, 0, 2, TAKEL, FRO, PUTL);
        // Waiting comes first: to stay, then to reach, is as soon as reaching twice.
        LateMirror z = told("deep 2;person 0 late 1;thing 0;");
        z.step(TAKEL);
        dueWay(z, 0, -1, 0, REACHL, REACHL);
        z.step(REACHL);
        dueWay(z, 0, -1, 0, REACHL);
        LateMirror lazy = told("deep 2;person 1 late 0;thing 1 there;rule:bored=3 do takel;");
        dueWay(lazy, 0, 0, 30, TAKER);
        dueWay(told("deep 2;person 1 late 0;thing 1 there;rule:bored=3 do takel;rule:1=1 do stay;"), 0, 0, 30, 0, 0, 0);
        // A doing that can't be is as good as any other, so the first one is told.
        dueWay(told("deep 2;person 1 late 0;thing 1 there;rule:late=8 do takel;"), 0, 0, 30, TAKER);
        dueWay(told("deep 2;person 1 late 0;thing 1 there;rule:late=3 do stay;rule:late=7 do takel;"), 0, 0, 30, REACHR);
    }

    private static void soonestOthersStay() {
        says("SOONEST for a PERSON (others stay)");
        LateMirror x = told("deep 2;person 0 late 4;person 0 late 1;person 1 late 0;thing 0;thing 1;");
        x.step(TAKER);
        x.step(9 * REACHR);
        // The copy of another one reaches in the next step, as that one was told.
        dueWay(x, 0, -1, 0, REACHR);
        dueWay(x, 0, 0, 32, REACHR);
        // The others only stay: they do not reach, nor take.
        dueSpent(x, 1, -1, 0);
        dueSpent(x, 0, 1, 24);
        dueWay(x, 2, 1, 24, TAKEL);
        dueSpent(x, 1, 0, 0);
        // Nor do they go: at the frame the copy of the second one would take it.
        LateMirror y = told("deep 2;person 1 late 0;person 1 late 0;thing 0 there;rule 1:at=0 do takel;");
        dueSpent(y, 0, 0, 32);
        dueWay(y, 1, 0, 32, TO, 0);
    }

    private static void soonestSpent() {
        says("behind each number that does not do: SPENT (-1000), if more than 3,000 unlike states were met by then (the first, too)");
        LateMirror x = told("deep 9;person 0 late 0;thing 0;");
        // Behind 3 steps 820 were met, behind 4 7,381: these are still looked at, a fifth is not.
        dueWay(x, 0, 0, 2, TAKEL, FRO, FRO, PUTL);
        dueSpent(x, 0, 0, 3);
        dueSpent(x, 0, 0, 12);
        // Even where nothing can be done, for states are unlike by what was told.
        dueSpent(told("deep 2;person 0;"), 0, -1, 0);
        LateMirror stuck = told("deep 2;person 1 late 0;thing 0 there;rule:1=1 do stay;");
        dueSpent(stuck, 0, 0, 0);
        says("NONE, if there are no new ones, or 8 do not do.");
        // That can't come: behind 4 steps more than 3,000 were met always, even by one who is as bored as can be.
        for (int i = 0; i < 12; i++) stuck.step(0);
        dueSpent(stuck, 0, 0, 0);
        dueSpent(stuck, 0, -1, 0);
        dueWay(stuck, 0, 0, 10);
    }

    private static void soonestWhat() {
        says("what 0: STEPS, 10 + k: the k-th DOING (NONE: not so many)");
        LateMirror x = told("deep 9;person 0 late 0;thing 0;");
        for (int what : new int[] {-1, 1, 2, 9, 18, 19, 27, Integer.MIN_VALUE, Integer.MAX_VALUE}) {
            due("what " + what, x.soonest(0, 0, 0, what), -2);
            due("what " + what + ", found", x.soonest(0, 0, 20, what), -2);
            due("what " + what + ", spent", x.soonest(0, 0, 18, what), -2);
        }
        for (int what = 10; what <= 17; what++) due("what " + what, x.soonest(0, 0, 0, what), -1);
        says("-2: the PERSON, the THING (NONE can be), what (10 to 17); -3: no such PLACE (asked, if it is a THING).");
        for (int p : new int[] {-1, 1, 3, Integer.MIN_VALUE, Integer.MAX_VALUE}) due("person " + p, x.soonest(p, 0, 0, 0), -2);
        for (int t : new int[] {-2, 1, 4, Integer.MIN_VALUE, Integer.MAX_VALUE}) due("thing " + t, x.soonest(0, t, 0, 0), -2);
        for (int place : new int[] {-1, 9, 99, Integer.MIN_VALUE, Integer.MAX_VALUE}) {
            due("no thing, place " + place, x.soonest(0, -1, place, 0), 2);
            due("a thing, place " + place, x.soonest(0, 0, place, 0), -3);
        }
    }

    private static void soonestPlaces() {
        says("-3: no such PLACE");
        for (int deep = 2; deep <= 9; deep++) {
            int people = 1 + deep % 3;
            LateMirror x = told("deep " + deep + ";" + times("person 0 late 0;", people) + "thing 0;");
            for (int place = -2; place <= 40; place++) {
                boolean cell = place >= 0 && place < deep || place >= 10 && place < 10 + deep;
                boolean hand = place >= 20 && place < 20 + 2 * people || place >= 30 && place < 30 + 2 * people;
                int got = x.soonest(0, 0, place, 0);
                due("place " + place + " of " + deep + " deep, " + people, got == -3 ? 0 : 1, cell || hand ? 1 : 0);
            }
        }
    }

    private static void fromZeroOn() {
        says("The k-th, the i-th of whatever: from 0 on, where it isn't told otherwise.");
        LateMirror x = told("deep 3;person 0 late 0;thing 0;");
        due("the first doing", x.soonest(0, 0, 1, 10), TAKEL);
        due("the last doing", x.soonest(0, 0, 1, 12), PUTL);
        fill(x, 0, TO, 9);
        due("the first step in which a copy could not", x.fails(0, 0), 0);
        due("the first copy", x.fails(0, 1), 0);
        due("the place that is no doings", x.judge(0, 0), 1);
        fill(x, 0, 1, 2);
        due("the first row", x.meant(0, 0, 0), FRO * 9 + FRO);
        due("the first place", x.maybe(0, 0, 0), 1 << FRO);
        due("the first number", x.write(0, 0, 5), 5);
        due("the first image", x.image(0), 0);
    }

    private static void states() {
        says("How many unlike states n STEPS (0 to 4) of a PERSON (others stay) lead to, just so many. -2; -3.");
        LateMirror x = told("deep 2;person 0;person 1 late 4;person 0 late 0;");
        // One whose copy stays whatever it is told, and is as bored as it can be.
        LateMirror still = told("deep 2;person 0 late 0;rule:1=1 do stay;");
        for (int i = 0; i < 20; i++) still.step(0);
        for (int n = -1; n <= 5; n++) {
            int want = n >= 0 && n <= 4 ? NINES[n] : -3;
            for (int p = 0; p < 3; p++) due("states(" + p + ", " + n + ")", x.states(p, n), want);
            due("states(0, " + n + ") of one who is bored", still.states(0, n), want);
            due("states(-1, " + n + ")", x.states(-1, n), -2);
            due("states(3, " + n + ")", x.states(3, n), -2);
        }
        due("nobody", new LateMirror().states(0, 0), -2);
        for (int n : new int[] {Integer.MIN_VALUE, Integer.MAX_VALUE}) due("states(0, " + n + ")", x.states(0, n), -3);
    }

    private static void reach() {
        says("CELLS where a PERSON's COPY can be behind n STEPS (0 to 4) of that PERSON, as bits. -2; -3.");
        for (int deep = 2; deep <= 9; deep++) {
            for (int at = 0; at < deep; at++) {
                for (int late = 0; late <= 4; late++) dueReach(deep, at, late);
            }
        }
        // Just behind so many, not on the way: this copy goes to and fro by itself.
        LateMirror x = told("deep 2;person 0;rule:at=0 do fro;rule:at=1 do to;");
        for (int n = 0; n <= 4; n++) due("reach(0, " + n + ")", x.reach(0, n), n % 2 == 0 ? 1 : 2);
        // By its person's cell, behind its doing.
        LateMirror y = told("deep 3;person 1 late 4;rule:mine=2 do fro;rule:mine=0 do to;");
        due("reach(0, 1)", y.reach(0, 1), 7);
        // What hands hold may open another way.
        LateMirror z = told("deep 5;person 0 late 0;thing 0 there;rule:left=1 do fro;rule:late<3 do stay;");
        int[] cells = {1, 1, 3, 7, 15};
        for (int n = 0; n <= 4; n++) due("reach(0, " + n + ")", z.reach(0, n), cells[n]);
        due("as if done", z.count(5), 0);
    }

    private static void reachEach() {
        says("of that PERSON, as bits.");
        // Each of its own: the first stays at 0 whatever it is told, the second is soon, the third late.
        String text = "deep 9;person 0 late 0;person 4 late 0;person 6 late 2;rule 0:1=1 do stay;";
        int[][] want = {{1, 1, 1, 1, 1}, {1 << 4, 7 << 3, 31 << 2, 127 << 1, 511}, {1 << 6, 1 << 6, 1 << 6, 7 << 5, 31 << 4}};
        for (int p = 0; p < 3; p++) {
            for (int n = 0; n <= 4; n++) {
                due("reach(" + p + ", " + n + ")", told(text).reach(p, n), want[p][n]);
                LateMirror x = told(text);
                x.soonest((p + 1) % 3, -1, 0, 0);
                due("behind another search", x.reach(p, n), want[p][n]);
            }
        }
        // Others stay, so a copy that was told ahead goes on as told, and only it.
        LateMirror x = told(text);
        x.step(81 * TO + 9 * FRO);
        due("told ahead, not yet", x.reach(2, 1), 1 << 6);
        due("told ahead", x.reach(2, 2), 1 << 5);
        due("the other one from where it is", x.reach(1, 1), 7 << 4);
        // By a doing of the hands in the last step, at once.
        String hands = "deep 9;person 4 late 0;rule:late=4 do fro;rule:1=1 do stay;";
        due("takel is done as fro", told(hands).reach(0, 1), 3 << 4);
        LateMirror y = told(hands);
        fill(y, 0, 5);
        due("by takel alone", y.meant(0, 0, -1), 1);
        due("by takel alone", y.meant(0, 0, 0), TAKEL);
        due("by takel alone", y.maybe(0, 0, 0), 1 << TAKEL);
        fill(y, 0, -1, 5);
        due("by takel in one of two steps", y.meant(0, 0, -1), 16);
    }

    private static void dueReach(int deep, int at, int late) {
        LateMirror x = told("deep " + deep + ";person " + at + " late " + late + ";");
        for (int n = -1; n <= 5; n++) {
            int want = 0;
            int steps = Math.max(0, n - late);
            for (int cell = Math.max(0, at - steps); cell <= Math.min(deep - 1, at + steps); cell++) want |= 1 << cell;
            due("reach(0, " + n + ") of " + deep + ", " + at + ", " + late, x.reach(0, n), n < 0 || n > 4 ? -3 : want);
            due("reach(1, " + n + ")", x.reach(1, n), -2);
            due("reach(-1, " + n + ")", x.reach(-1, n), -2);
        }
    }

    // ---- laws

    private static void seenNumbers() {
        says("SEEN in a TRAY (1 to 30 numbers 9 times a PERSON's DOING, and its COPY's, STEP by STEP from the first on)");
        LateMirror x = new LateMirror();
        for (int n = 0; n <= 40; n++) {
            x.numbers(0, n % 4, n);
            boolean can = n >= 1 && n <= 30;
            due("fits() of " + n, x.fits(0), can ? 1280 : -4);
            due("smallest() of " + n, x.smallest(0, 1), can ? 0 : -4);
            due("sure() of " + n, x.sure(0), can ? 0 : -4);
            due("telling() of " + n, x.telling(0, 1), can ? 640 : -4);
        }
        says("-3: one is none such (0 to 80).");
        LateMirror y = new LateMirror();
        y.numbers(0, 3, 1);
        for (int v = -1; v <= 81; v++) {
            y.write(0, 0, v);
            due("fits() of " + v, y.fits(0), v < 0 || v > 80 ? -3 : fittingOne(v / 9, v % 9));
        }
        long[] none = {-1, 81, 256, 1L << 32, (1L << 32) + 1, -1L << 32, Long.MIN_VALUE, Long.MAX_VALUE};
        for (int place = 0; place < 30; place += 29) {
            for (long v : none) {
                y.numbers(0, 3, 30);
                y.write(0, place, v);
                due("fits() with " + v, y.fits(0), -3);
                due("smallest() with " + v, y.smallest(0, 0), -3);
                due("sure() with " + v, y.sure(0), -3);
                due("telling() with " + v, y.telling(0, 0), -3);
            }
        }
    }

    /** Laws that fit one step: not late by as many sets as let it do so, late ones if it stayed. */
    private static int fittingOne(int told, int did) {
        int would = OTHER_HAND[told];
        int now = did == would ? (would == 0 ? 256 : 128) : did == 0 ? 128 : 0;
        return now + (did == 0 ? 4 * 256 : 0);
    }

    /** A tray of one doing told in the first step, and one of the copy some steps behind. */
    private static void seenLate(LateMirror x, int size, int toldAt, int told, int seenAt, int seen) {
        x.numbers(0, 0, size);
        for (int i = 0; i < size; i++) {
            x.write(0, i, 9L * (i == toldAt ? told : 0) + (i == seenAt ? seen : 0));
        }
    }

    private static void seenFromTheFirst() {
        says("STEP by STEP from the first on");
        // Told in the last step: only a law that is not late can do it then, and all others may come yet.
        for (int size = 1; size <= 30; size++) {
            LateMirror x = new LateMirror();
            seenLate(x, size, size - 1, TO, -1, 0);
            due("not done in the last of " + size, x.fits(0), 128 + 4 * 256);
            seenLate(x, size, size - 1, TO, size - 1, TO);
            due("done in the last of " + size, x.fits(0), 128);
        }
        LateMirror y = new LateMirror();
        for (int late = 0; late <= 4; late++) {
            seenLate(y, 30, 29 - late, TAKER, 29, TAKEL);
            due("the thirtieth tells: late", y.smallest(0, 0), late);
            due("the thirtieth tells: fits", y.fits(0), 128);
        }
        seenLate(y, 30, -1, 0, 0, TO);
        due("nothing was told ahead of the first", y.fits(0), 0);
    }

    private static void lawsLate() {
        says("a LAW is LATE (0 to 4) and a set of DOINGS that are left out");
        for (int doing = 1; doing < 9; doing++) {
            LateMirror x = new LateMirror();
            for (int late = 0; late <= 6; late++) {
                seenLate(x, 9, 0, doing, late, OTHER_HAND[doing]);
                due("fits() of " + doing + " late " + late, x.fits(0), late <= 4 ? 128 : 0);
                due("smallest(0, 0) of " + doing + " late " + late, x.smallest(0, 0), late <= 4 ? late : -1);
                due("smallest(0, 1) of " + doing + " late " + late, x.smallest(0, 1), late <= 4 ? 0 : -1);
            }
        }
    }

    private static void lawsLeftOut() {
        says("(bits of their numbers as the COPY would do them; stay never is), for which it stays: it FITS, if all is so.");
        LateMirror x = new LateMirror();
        for (int doing = 0; doing < 9; doing++) {
            // It was told five times on end, and nothing came of it: all laws leave it out.
            fill(x, 0, 9L * doing, 9L * doing, 9L * doing, 9L * doing, 9L * doing);
            due("fits() of " + doing, x.fits(0), doing == 0 ? 1280 : 640);
            due("sure() of " + doing, x.sure(0), doing == 0 ? 0 : 1 << OTHER_HAND[doing]);
            due("smallest(0, 1) of " + doing, x.smallest(0, 1), doing == 0 ? 0 : 1 << OTHER_HAND[doing]);
            due("smallest(0, 0) of " + doing, x.smallest(0, 0), 0);
        }
        LateMirror y = new LateMirror();
        fill(y, 0, 9, 18, 27, 36, 45, 54, 63, 72, 0, 0, 0, 0);
        due("all eight are left out", y.sure(0), 510);
        due("one set of each lateness", y.fits(0), 5);
        due("smallest(0, 1)", y.smallest(0, 1), 510);
        fill(y, 0, 10, 9);
        due("done, then not", y.fits(0), 0);
        fill(y, 0, 9, 10);
        due("not done, then done: late", y.smallest(0, 0), 1);
        fill(y, 0, 9, 18, 1);
        due("fits late 2", y.smallest(0, 0), 2);
        fill(y, 0, 9 * TAKEL + TAKEL);
        due("the same hand", y.fits(0), 0);
        fill(y, 0, 9 * TAKEL + TAKER, 9 * TAKER);
        due("the other one is left out", y.smallest(0, 1), 1 << TAKEL);
    }

    private static void smallest() {
        says("SMALLEST: the fewest left out, then the least LATE, then the least set.");
        LateMirror x = new LateMirror();
        fill(x, 0, 0);
        due("the least late", x.smallest(0, 0), 0);
        due("nothing is left out", x.smallest(0, 1), 0);
        for (int late = 1; late <= 4; late++) {
            // Less late ones have to leave it out, this one and later ones do not.
            seenLate(x, late, 0, TO, -1, 0);
            due("the fewest, of " + late, x.smallest(0, 0), late);
            due("nothing is left out, of " + late, x.smallest(0, 1), 0);
        }
        seenLate(x, 5, 0, FRO, -1, 0);
        due("all have to", x.smallest(0, 0), 0);
        due("fro", x.smallest(0, 1), 4);
        // Two by those not late, one by those late 1, none by others.
        fill(x, 0, 9, 18);
        due("none of fewest", x.smallest(0, 0), 2);
        fill(x, 0, 9, 9, 9, 18, 9);
        due("one of two", x.smallest(0, 0), 2);
        due("to", x.smallest(0, 1), 2);
        says("NONE: none FITS; -2 (what, too); -6; -4; -3.");
        fill(x, 0, 1);
        due("none", x.smallest(0, 0), -1);
        due("none", x.smallest(0, 1), -1);
        for (int what : new int[] {-1, 2, Integer.MIN_VALUE, Integer.MAX_VALUE}) due("what " + what, x.smallest(0, what), -2);
    }

    private static void sure() {
        says("SURE: DOINGS that are left out in all that FIT.");
        LateMirror x = new LateMirror();
        fill(x, 0, 0);
        due("none is", x.sure(0), 0);
        for (int told = 1; told <= 6; told++) {
            x.numbers(0, 0, told);
            for (int i = 0; i < told; i++) x.write(0, i, 9L * REACHL);
            // Those late by 4 have seen it when it was told five steps ago.
            due("told " + told + " times", x.sure(0), told >= 5 ? 1 << REACHR : 0);
        }
        fill(x, 0, 10, 18);
        due("one lateness is left", x.sure(0), 4);
        fill(x, 0, 10);
        due("done: none is sure", x.sure(0), 0);
        says("SURE, as bits. NONE: none FITS; else as fits().");
        fill(x, 0, 2);
        due("none fits", x.sure(0), -1);
    }

    private static void telling() {
        says("the PERSON does a DOING next, then stays 4 times: by what the COPY would do in these 5 STEPS LAWS that FIT part");
        LateMirror x = new LateMirror();
        fill(x, 0, 0);
        // By to each lateness shows in a step of its own, the last in the fifth; together are those that leave it out.
        due("the doing", x.telling(0, 0), TO);
        due("left at worst", x.telling(0, 1), 5 * 128);
        says("the DOING by which the most that are left together are fewest, the least number.");
        for (int known = 1; known <= 7; known++) {
            // Those up to this one are done at once: the least other one halves what is left.
            x.numbers(0, 0, known);
            for (int i = 0; i < known; i++) x.write(0, i, 9L * (i + 1) + OTHER_HAND[i + 1]);
            due("fits", x.fits(0), 256 >> known);
            due("the doing behind " + known, x.telling(0, 0), known + 1);
            due("left at worst behind " + known, x.telling(0, 1), 128 >> known);
        }
        // Told by the numbers of the person: taker of the copy is open, so takel tells.
        fill(x, 0, 10, 20, 9 * 4 + 3, 9 * 5 + 6, 9 * 6 + 5, 9 * 7 + 8, 9 * 8 + 7);
        due("two fit", x.fits(0), 2);
        due("the doing", x.telling(0, 0), TAKEL);
        due("left at worst", x.telling(0, 1), 1);
        // What was told and is still to come tells by itself.
        fill(x, 0, 9 * 2, 9 * 3, 9 * 4, 9 * 5, 9 * 6, 9 * 7, 9 * 8, 9, 0, 0, 0);
        due("six fit", x.fits(0), 6);
        due("stay tells as much as any", x.telling(0, 0), 0);
        due("left at worst", x.telling(0, 1), 5);
        // Nothing tells: the least number, and all are left.
        fill(x, 0, 9, 18, 27, 36, 45, 54, 63, 72, 0, 0, 0, 0);
        due("nothing tells", x.telling(0, 0), 0);
        due("all five are left", x.telling(0, 1), 5);
    }

    private static void tellingByTrying() {
        says("by what the COPY would do in these 5 STEPS LAWS that FIT part");
        int[][] rows = {{1, 2, 3, 4}, {8, 7, 6}, {1, 1, 1, 1}, {1, 2}, {5, 0, 5, 0, 6}, {3, 4, 3, 4, 3, 4}, {1, 2, 3, 4, 5, 6, 7, 8},
            {2, 4, 6, 8, 1, 3, 5, 7}, {7, 7, 8, 8, 7}, {1, 0, 0, 0, 2, 0, 0, 3}, {8}, {0, 0, 8, 7, 6, 5, 4, 3, 2, 1, 0}, {6, 3, 1, 8}};
        for (int[] told : rows) {
            LateMirror x = new LateMirror();
            // The copy has stayed up to now.
            x.numbers(0, 0, told.length);
            for (int i = 0; i < told.length; i++) x.write(0, i, 9L * told[i]);
            dueTelling(x, told, new int[told.length]);
            // It is late by 2 and leaves out taker and putl.
            int[] seen = new int[told.length];
            for (int i = 2; i < told.length; i++) {
                int d = OTHER_HAND[told[i - 2]];
                seen[i] = d == TAKER || d == PUTL ? 0 : d;
            }
            for (int i = 0; i < told.length; i++) x.write(0, i, 9L * told[i] + seen[i]);
            dueTelling(x, told, seen);
        }
    }

    private static int lawDoes(int late, int out, int[] told, int i) {
        int d = i - late < 0 || i - late >= told.length ? 0 : OTHER_HAND[told[i - late]];
        return (out >> d & 1) == 1 ? 0 : d;
    }

    /** All laws one by one, those that fit are put together by what they would do. */
    private static void dueTelling(LateMirror x, int[] told, int[] seen) {
        int best = -1;
        int fewest = 0;
        int fit = 0;
        for (int doing = 0; doing < 9; doing++) {
            int[] then = java.util.Arrays.copyOf(told, told.length + 5);
            then[told.length] = doing;
            java.util.Map<String, Integer> parts = new java.util.HashMap<>();
            fit = 0;
            for (int late = 0; late <= 4; late++) {
                for (int out = 0; out < 512; out += 2) {
                    boolean fits = true;
                    for (int i = 0; i < told.length; i++) fits &= lawDoes(late, out, told, i) == seen[i];
                    if (!fits) continue;
                    fit++;
                    StringBuilder row = new StringBuilder();
                    for (int i = told.length; i < then.length; i++) row.append(lawDoes(late, out, then, i));
                    parts.merge(row.toString(), 1, Integer::sum);
                }
            }
            int most = 0;
            for (int many : parts.values()) most = Math.max(most, many);
            if (best < 0 || most < fewest) {
                best = doing;
                fewest = most;
            }
        }
        due("how many fit", x.fits(0), fit);
        due("the doing that tells", x.telling(0, 0), fit < 2 ? -1 : best);
        due("left at worst", x.telling(0, 1), fit < 2 ? -1 : fewest);
    }

    private static void tellingFewerThanTwo() {
        says("what 0: the DOING, 1: how many are left at worst. NONE: fewer than two FIT; -2 (what, too); -6; -4; -3.");
        LateMirror x = new LateMirror();
        fill(x, 0, 1);
        due("none fits", x.telling(0, 0), -1);
        due("none fits", x.telling(0, 1), -1);
        fill(x, 0, 10, 20, 9 * 3 + 4, 9 * 4 + 3, 9 * 5 + 6, 9 * 6 + 5, 9 * 7 + 8, 9 * 8 + 7);
        due("one fits", x.fits(0), 1);
        due("one fits", x.telling(0, 0), -1);
        due("one fits", x.telling(0, 1), -1);
        fill(x, 0, 10, 20, 9 * 3 + 4, 9 * 4 + 3, 9 * 5 + 6, 9 * 6 + 5, 9 * 7 + 8);
        due("two fit", x.fits(0), 2);
        due("two fit", x.telling(0, 0), REACHR);
        due("two fit", x.telling(0, 1), 1);
        for (int what : new int[] {-1, 2, Integer.MIN_VALUE, Integer.MAX_VALUE}) due("what " + what, x.telling(0, what), -2);
    }

    // ---- what was meant

    private static void meantNumbers() {
        says("MEANT in a TRAY (1 to 5 numbers: the CELL of a PERSON's COPY behind each STEP from now on, NONE: not seen)");
        LateMirror x = told("deep 2;person 1 late 0;");
        for (int n = 0; n <= 40; n++) {
            x.numbers(0, 0, n);
            for (int i = 0; i < n && i < 6; i++) x.write(0, i, -1);
            due("meant() of " + n, x.meant(0, 0, -1), n >= 1 && n <= 5 ? NINES[n] : -4);
            due("maybe() of " + n, x.maybe(0, 0, 0), n >= 1 && n <= 5 ? 511 : -4);
        }
        says("-4: not 1 to 5 numbers; -3: one is no CELL.");
        for (int deep = 2; deep <= 9; deep++) {
            LateMirror y = told("deep " + deep + ";person 0 late 0;");
            for (int place = 0; place < 5; place += 4) {
                y.numbers(0, 3, 5);
                for (int i = 0; i < 5; i++) y.write(0, i, -1);
                for (long v : new long[] {-2, deep, 10, 1L << 32, (1L << 32) - 1, -1L << 32, Long.MIN_VALUE, Long.MAX_VALUE}) {
                    y.write(0, place, v);
                    due("meant() with " + v, y.meant(0, 0, -1), -3);
                    due("maybe() with " + v, y.maybe(0, 0, 0), -3);
                }
                y.write(0, place, deep - 1);
                due("the last cell", y.meant(0, 0, -1) < 0 ? 1 : 0, 0);
                y.write(0, place, 0);
                due("cell 0", y.meant(0, 0, -1) < 0 ? 1 : 0, 0);
            }
        }
        for (int sort = 0; sort < 4; sort++) {
            x.numbers(1, sort, 1);
            x.write(1, 0, -1);
            due("not seen, in a tray of sort " + sort, x.meant(0, 1, -1), 9);
        }
    }

    private static void meantRows() {
        says("rows of as many DOINGS of that PERSON (others stay) by which it is so.");
        LateMirror x = told("deep 3;person 1 late 0;person 1 late 2;");
        fill(x, 0, 0, 1, 2, 2, 1);
        // to, fro, fro; then whatever leaves it at the last; then to.
        due("how many", x.meant(0, 0, -1), 8);
        int[] stays = {0, 2, 3, 4, 5, 6, 7, 8};
        for (int k = 0; k < 8; k++) {
            due("row " + k, x.meant(0, 0, k), TO * 6561 + FRO * 729 + FRO * 81 + stays[k] * 9 + TO);
        }
        fill(x, 0, 0, 2);
        due("too far in one step", x.meant(0, 0, -1), 0);
        due("no row", x.meant(0, 0, 0), -1);
        fill(x, 0, -1, 2);
        due("not seen on the way", x.meant(0, 0, -1), 8 + 7);
        // Told now, it comes two steps later: what is seen ahead of that tells nothing.
        fill(x, 0, 1, 1, 0);
        due("late 2", x.meant(1, 0, -1), 81);
        due("late 2, the first row", x.meant(1, 0, 0), TO * 81);
        due("late 2, the last row", x.meant(1, 0, 80), TO * 81 + 80);
        fill(x, 0, 0);
        due("late 2: so early it can't", x.meant(1, 0, -1), 0);
        // From now on: behind a step that was told already.
        x.step(9 * TO);
        x.step(0);
        due("told two steps ago", x.meant(1, 0, -1), 9);
        due("as if done", x.count(5), 2);
    }

    private static void meantOthersStay() {
        says("(others stay) by which it is so.");
        LateMirror x = told("deep 3;person 1 late 0;person 1 late 0;rule 0:1=1 do stay;");
        x.step(9 * FRO);
        fill(x, 0, 2);
        due("the other one's copy is where it was told to go", x.meant(1, 0, -1), 8);
        fill(x, 0, 1);
        due("by its own doing only", x.meant(1, 0, -1), 1);
        due("which is to", x.meant(1, 0, 0), TO);
        due("the first one's copy stays by a rule", x.meant(0, 0, -1), 9);
        // A copy that follows its person's cell: 'mine' is where it is behind its doing.
        LateMirror y = told("deep 3;person 1 late 4;rule:mine>at do fro;rule:mine<at do to;");
        fill(y, 0, 2, 0);
        due("it can't be so fast", y.meant(0, 0, -1), 0);
        fill(y, 0, 2, 1, 0);
        due("fro, to, to", y.meant(0, 0, -1), 1);
        due("fro, to, to", y.meant(0, 0, 0), FRO * 81 + TO * 9 + TO);
    }

    private static void meantK() {
        says("MEANT: how many (k NONE), else DOINGS of the k-th, by digits of 9, the first one the highest. NONE: not so many");
        LateMirror x = told("deep 2;person 1 late 0;");
        for (int n = 1; n <= 5; n++) {
            x.numbers(0, 0, n);
            for (int i = 0; i < n; i++) x.write(0, i, -1);
            int all = NINES[n];
            due("how many of " + n, x.meant(0, 0, -1), all);
            for (int k : new int[] {0, 1, 8, all / 2, all - 2, all - 1}) due("row " + k + " of " + n, x.meant(0, 0, k), k);
            for (int k : new int[] {all, all + 1, Integer.MAX_VALUE, -2, Integer.MIN_VALUE}) {
                due("row " + k + " of " + n, x.meant(0, 0, k), -1);
            }
        }
        fill(x, 0, 0, -1, 1);
        due("to, then two that bring it back", x.meant(0, 0, -1), 8 + 8);
        due("to, stay, fro", x.meant(0, 0, 0), TO * 81 + FRO);
        due("to, to, fro", x.meant(0, 0, 1), TO * 81 + TO * 9 + FRO);
        due("to, fro, stay", x.meant(0, 0, 2), TO * 81 + FRO * 9);
        due("to, fro, fro", x.meant(0, 0, 3), TO * 81 + FRO * 9 + FRO);
        due("the last", x.meant(0, 0, 15), TO * 81 + 8 * 9 + FRO);
        due("no more", x.meant(0, 0, 16), -1);
    }

    private static void maybe() {
        says("DOINGS that a PERSON may have done at a place of MEANT, as bits.");
        LateMirror x = told("deep 2;person 1 late 0;person 0 late 1;");
        fill(x, 0, 0, 1, -1, 1, 0);
        int[] bits = {1 << TO, 1 << FRO, 511, 511 - (1 << TO), 1 << TO};
        for (int i = 0; i < 5; i++) due("maybe(0, 0, " + i + ")", x.maybe(0, 0, i), bits[i]);
        fill(x, 0, 0, -1, 1);
        int[] two = {1 << TO, 511, 511 - (1 << TO)};
        for (int i = 0; i < 3; i++) due("maybe(0, 0, " + i + ")", x.maybe(0, 0, i), two[i]);
        fill(x, 0, 0, 1);
        due("late 1: the first may be fro only", x.maybe(1, 0, 0), 1 << FRO);
        due("late 1: the last tells nothing", x.maybe(1, 0, 1), 511);
        says("-3 also for the place; else as meant().");
        for (int n = 1; n <= 5; n++) {
            x.numbers(0, 0, n);
            for (int place = -1; place <= n + 1; place++) {
                boolean can = place >= 0 && place < n;
                due("maybe(1, 0, " + place + ") of " + n, x.maybe(1, 0, place) == -3 ? 0 : 1, can ? 1 : 0);
            }
            due("the least place", x.maybe(1, 0, Integer.MIN_VALUE), -3);
            due("the most", x.maybe(1, 0, Integer.MAX_VALUE), -3);
        }
        fill(x, 0, 1, 0);
        due("none may be", x.maybe(1, 0, 0), 0);
        due("none may be", x.maybe(1, 0, 1), 0);
    }

    // ---- odds

    private static void oddsNumbers() {
        says("ODDS by HOURS (1 to 8)");
        LateMirror x = told("deep 2;person 1 late 0;");
        long power = 1;
        for (int n = 0; n <= 40; n++) {
            x.numbers(0, 0, n);
            due("odds() of " + n, x.odds(0, 0, 1), n >= 1 && n <= 8 ? power : -4);
            if (n < 8) power *= 10;
        }
        says("-4: not 1 to 8 numbers; -3: the CELL, one is no DOINGS.");
        for (int deep = 2; deep <= 9; deep++) {
            LateMirror y = told("deep " + deep + ";person 0;person 1;");
            fill(y, 0, 80);
            for (int cell : new int[] {-1, deep, 10, Integer.MIN_VALUE, Integer.MAX_VALUE}) {
                due("odds(0, 0, " + cell + ")", y.odds(0, 0, cell), -3);
            }
            for (int cell = 0; cell < deep; cell++) due("odds(0, 0, " + cell + ")", y.odds(0, 0, cell), cell == 0 ? 10 : 0);
        }
        LateMirror z = told("deep 2;person 1 late 0;person 1 late 0;");
        for (int place = 0; place < 8; place += 7) {
            z.numbers(0, 3, 8);
            for (long v : new long[] {-1, 81, 1L << 32, -1L << 32, Long.MIN_VALUE, Long.MAX_VALUE}) {
                z.write(0, place, v);
                due("odds() with " + v, z.odds(0, 0, 1), -3);
            }
            z.write(0, place, 80);
            due("the last doings", z.odds(0, 0, 1), 100000000);
        }
    }

    private static void oddsOfEach() {
        says("if each STEP it misses by so many tenths (it stays then; nothing else is so): out of 10 to the power of how many");
        for (int miss = 0; miss <= 9; miss++) {
            LateMirror x = told("deep 9;person 8 late 0;miss " + miss + ";");
            // Eight times to from the last: as many misses as cells are left.
            fill(x, 0, TO, TO, TO, TO, TO, TO, TO, TO);
            long[] choose = {1, 8, 28, 56, 70, 56, 28, 8, 1};
            long all = 0;
            for (int cell = 0; cell < 9; cell++) {
                long want = choose[cell];
                for (int i = 0; i < 8; i++) want *= i < cell ? miss : 10 - miss;
                due("odds(0, 0, " + cell + ") of miss " + miss, x.odds(0, 0, cell), want);
                all += x.odds(0, 0, cell);
            }
            due("together", all, 100000000);
        }
        // At the frame and at the last it can't go on: what it can't counts as what it misses.
        LateMirror x = told("deep 2;person 1 late 0;miss 4;");
        fill(x, 0, TO, TO);
        due("at the frame", x.odds(0, 0, 0), 60 + 4 * 6);
        due("not there", x.odds(0, 0, 1), 16);
        fill(x, 0, FRO, FRO);
        due("at the last", x.odds(0, 0, 1), 100);
        fill(x, 0, TO, FRO);
        due("and back, or missed both, or fro at the last", x.odds(0, 0, 1), 36 + 40);
        due("missed the second", x.odds(0, 0, 0), 24);
    }

    private static void oddsLate() {
        says("just to and fro count, LATE ones told by HOURS and ahead.");
        for (int late = 0; late <= 4; late++) {
            LateMirror x = told("deep 9;person 4 late " + late + ";miss 2;");
            for (int n = 1; n <= 8; n++) {
                x.numbers(0, 0, n);
                x.write(0, 0, FRO);
                long power = 1;
                for (int i = 1; i < n; i++) power *= 10;
                due("late " + late + " behind " + n, x.odds(0, 0, 5), n > late ? 8 * power : 0);
                due("late " + late + " behind " + n, x.odds(0, 0, 4), n > late ? 2 * power : 10 * power);
            }
            // Told ahead: as many of the last as it is late are still to come, then those of the hours.
            LateMirror y = told("deep 9;person 4 late " + late + ";miss 2;rule:1=1 do stay;");
            for (int i = 0; i < 6; i++) y.step(TO);
            for (int n = 1; n <= 5; n++) {
                y.numbers(0, 0, n);
                long want = 1;
                for (int i = 0; i < n; i++) want *= i < late && i < 4 ? 8 : 10;
                due("told ahead, late " + late + " behind " + n, y.odds(0, 0, 4 - Math.min(late, n)), want);
            }
        }
    }

    private static void oddsOthers() {
        says("LATE ones told by HOURS and ahead.");
        for (int p = 0; p < 3; p++) {
            // Others go the other way, and are told so ahead.
            LateMirror x = told("deep 9;person 4 late 2;person 4 late 2;person 4 late 2;miss 1;");
            int others = FRO * (91 - NINES[p]);
            x.step(others + TO * NINES[p]);
            fill(x, 0, others + TO * NINES[p], others, others + REACHL * NINES[p]);
            for (int q = 0; q < 3; q++) {
                long[] want = new long[9];
                // In three steps: none yet, what was told ahead, what the first hour tells.
                want[4] = 10;
                want[q == p ? 3 : 5] = 2 * 9 * 10;
                want[q == p ? 2 : 6] = 9 * 9 * 10;
                for (int cell = 0; cell < 9; cell++) due("odds(" + q + ", 0, " + cell + ")", x.odds(q, 0, cell), want[cell]);
            }
        }
    }

    private static void oddsNothingElse() {
        says("RULES, THINGS are no matter");
        LateMirror x = told("deep 3;person 1 late 0;person 1 late 0;thing 1 there;miss 5;rule:1=1 do fro;");
        for (int doing = 0; doing < 9; doing++) {
            fill(x, 0, doing, 0);
            int[] want = {doing == TO ? 50 : 0, doing == TO || doing == FRO ? 50 : 100, doing == FRO ? 50 : 0};
            for (int cell = 0; cell < 3; cell++) {
                due("odds(0, 0, " + cell + ") by " + doing, x.odds(0, 0, cell), want[cell]);
                due("the other one stays", x.odds(1, 0, cell), cell == 1 ? 100 : 0);
            }
        }
        due("as if done", x.count(5), 0);
        // From where the copy is, not its person.
        x.step(TO + 9 * TO);
        fill(x, 0, 0);
        due("its copy went fro by the rule", x.odds(0, 0, 2), 10);
        due("its person went to", x.odds(0, 0, 0), 0);
    }
}
