/** Each sentence of ==== 2, and of the promises 5 to 16, that names a boundary case. */
public final class StepEdgesTest extends Asking {
    private static final int[] OTHER_HAND = {0, 1, 2, 4, 3, 6, 5, 8, 7};
    private static final int TO = 1;
    private static final int FRO = 2;
    private static final int TAKEL = 3;
    private static final int TAKER = 4;
    private static final int PUTL = 5;
    private static final int PUTR = 6;
    private static final int REACHL = 7;
    private static final int REACHR = 8;

    public static void main(String[] args) {
        hands();
        toAndFro();
        taking();
        putting();
        reaching();
        whoCannot();
        order();
        lateDoings();
        bored();
        boredEach();
        firstRule();
        names();
        keptSums();
        passing();
        passingOnce();
        passingOnceOthers();
        doingsAsNumber();
        places();
        undone();
        tenAtMost();
        allIsAsItWas();
        person();
        copy();
        thingAndCan();
        would();
        step();
        judge();
        perform();
        day();
        draws();
        fails();
        roundNumbers();
        roundTimes();
        end();
    }

    private static void dueHands(LateMirror x, int p, int left, int right, int copyLeft, int copyRight) {
        due("person(" + p + ", 2)", x.person(p, 2), left);
        due("person(" + p + ", 3)", x.person(p, 3), right);
        due("copy(" + p + ", 2)", x.copy(p, 2), copyLeft);
        due("copy(" + p + ", 3)", x.copy(p, 3), copyRight);
    }

    private static void hands() {
        says("Each hand, left and right, of PEOPLE and COPIES holds one THING at most (none at first).");
        LateMirror x = told("deep 2;person 1 late 0;thing 1;thing 1;thing 1 there;thing 1 there;");
        dueHands(x, 0, -1, -1, -1, -1);
        x.step(TAKEL);
        dueHands(x, 0, 0, -1, -1, 2);
        x.step(TAKEL);
        dueHands(x, 0, 0, -1, -1, 2);
        due("it could not", x.person(0, 5), 0);
        due("its copy could not", x.copy(0, 5), 0);
        x.step(TAKER);
        dueHands(x, 0, 0, 1, 3, 2);
        due("both hold one", x.can(0, TAKEL) + x.can(0, TAKER), 0);
        due("both can put one", x.can(0, PUTL) + x.can(0, PUTR), 2);
    }

    private static void toAndFro() {
        says("to: a CELL nearer to the frame (it can't at 0)");
        LateMirror x = told("deep 3;person 2 late 0;");
        int[] nearer = {1, 0, 0, 0};
        for (int i = 0; i < nearer.length; i++) {
            due("can(0, 1) at " + x.person(0, 0), x.can(0, TO), i < 2 ? 1 : 0);
            x.step(TO);
            due("person(0, 0)", x.person(0, 0), nearer[i]);
            due("copy(0, 0)", x.copy(0, 0), nearer[i]);
            due("person(0, 5)", x.person(0, 5), i < 2 ? 1 : 0);
            due("copy(0, 5)", x.copy(0, 5), i < 2 ? 1 : 0);
        }
        says("fro: one farther (it can't at the last)");
        int[] farther = {1, 2, 2, 2};
        for (int i = 0; i < farther.length; i++) {
            due("can(0, 2) at " + x.person(0, 0), x.can(0, FRO), i < 2 ? 1 : 0);
            x.step(FRO);
            due("person(0, 0)", x.person(0, 0), farther[i]);
            due("copy(0, 0)", x.copy(0, 0), farther[i]);
            due("person(0, 5)", x.person(0, 5), i < 2 ? 1 : 0);
            due("copy(0, 5)", x.copy(0, 5), i < 2 ? 1 : 0);
        }
    }

    private static void taking() {
        says("the least THING that lies at its CELL of its side comes into the left, right hand (it can't, if the hand holds one or none lies there)");
        // Of these one lies elsewhere, one on the other side.
        LateMirror x = told("deep 3;person 1 late 0;thing 0;thing 1 there;thing 1;thing 1;");
        due("takel", x.can(0, TAKEL), 1);
        x.step(TAKEL);
        dueHands(x, 0, 2, -1, -1, 1);
        due("the hand holds one", x.can(0, TAKEL), 0);
        x.step(TAKER);
        dueHands(x, 0, 2, 3, -1, 1);
        due("its copy: none lies there", x.copy(0, 5), 0);
        x.step(PUTL);
        x.step(FRO);
        due("none lies there", x.can(0, TAKEL), 0);
        x.step(TO);
        due("it lies there", x.can(0, TAKEL), 1);
        // What somebody holds does not lie there.
        LateMirror y = told("deep 2;person 0;person 0;thing 0;");
        y.step(TAKEL);
        due("another one holds it", y.can(1, TAKEL), 0);
        LateMirror none = told("deep 2;person 0;");
        due("there is none at all", none.can(0, TAKEL) + none.can(0, TAKER), 0);
    }

    private static void putting() {
        says("putl, putr: the THING of that hand lies there (it can't, if there is none)");
        LateMirror x = told("deep 3;person 1 late 0;thing 1;thing 1;thing 1 there;thing 1 there;");
        due("nothing to put", x.can(0, PUTL) + x.can(0, PUTR), 0);
        x.step(TAKEL);
        due("to put by the left", x.can(0, PUTL), 1);
        due("nothing to put by the right", x.can(0, PUTR), 0);
        x.step(TAKER);
        x.step(FRO);
        x.step(PUTL);
        due("its left one lies here", x.thing(0), 2);
        due("the copy's right one lies there", x.thing(2), 12);
        x.step(TO);
        x.step(PUTR);
        due("its right one lies here", x.thing(1), 1);
        due("the copy's left one lies there", x.thing(3), 11);
        x.step(PUTR);
        due("nothing to put", x.person(0, 5), 0);
        due("nothing to put there", x.copy(0, 5), 0);
    }

    private static void reaching() {
        says("reachl, reachr: that hand is at the frame (it can't but at CELL 0); stay.");
        LateMirror x = told("deep 9;person 0 late 0;person 1 late 0;person 8 late 0;");
        for (int hand = REACHL; hand <= REACHR; hand++) {
            due("at 0", x.can(0, hand), 1);
            due("at 1", x.can(1, hand), 0);
            due("at 8", x.can(2, hand), 0);
            x.step(hand * 91);
            int[] could = {1, 0, 0};
            for (int p = 0; p < 3; p++) {
                due("person(" + p + ", 5)", x.person(p, 5), could[p]);
                due("copy(" + p + ", 5)", x.copy(p, 5), could[p]);
            }
        }
        for (int p = 0; p < 3; p++) due("stay", x.can(p, 0), 1);
        x.step(0);
        for (int p = 0; p < 3; p++) due("it stayed", x.person(p, 5) + x.copy(p, 5), 2);
    }

    private static void whoCannot() {
        says("Who can't does nothing.");
        LateMirror x = told("deep 2;person 1 late 0;thing 0;thing 0 there;");
        for (int doing : new int[] {FRO, TAKEL, TAKER, PUTL, PUTR, REACHL, REACHR}) {
            due("can(0, " + doing + ")", x.can(0, doing), 0);
            due("step(" + doing + ")", x.step(doing), 0);
            due("it was told", x.person(0, 4), doing);
            due("it could not", x.person(0, 5), 0);
            due("its copy would have", x.copy(0, 4), OTHER_HAND[doing]);
            due("its copy could not", x.copy(0, 5), 0);
            due("person(0, 0)", x.person(0, 0), 1);
            due("copy(0, 0)", x.copy(0, 0), 1);
            due("thing(0)", x.thing(0), 0);
            due("thing(1)", x.thing(1), 10);
        }
    }

    private static void order() {
        says("A STEP by DOINGS, one of each PERSON: PEOPLE by numbers do them; then COPIES by numbers; then THINGS pass.");
        LateMirror x = told("deep 2;person 1 late 0;person 1 late 0;thing 1;thing 1 there;");
        x.step(TAKEL + 9 * TAKEL);
        due("the first took it", x.thing(0), 20);
        due("the other could not", x.person(1, 5), 0);
        due("the first copy took it", x.thing(1), 31);
        due("the other copy could not", x.copy(1, 5), 0);
        x.step(PUTL + 9 * TAKER);
        due("put by the first, taken by the other", x.thing(0), 23);
        due("put by the first copy, taken by the other", x.thing(1), 32);
        x.step(TAKEL + 9 * PUTR);
        due("the first is too early", x.person(0, 5), 0);
        due("it lies", x.thing(0), 1);
        due("the first copy is too early", x.copy(0, 5), 0);
        due("it lies there", x.thing(1), 11);
        // All people are done when the first copy looks where its person is; copies reach in the step of their people.
        LateMirror y = told("deep 3;person 1 late 0;rule:mine=0 do fro;");
        y.step(TO);
        due("people first", y.copy(0, 0), 2);
        LateMirror z = told("deep 2;person 0 late 0;thing 0;");
        z.step(TAKEL);
        due("then things pass", z.step(REACHL), 1);
        due("a copy that puts what it gets only later", z.thing(0), 31);
    }

    private static void lateDoings() {
        says("what its PERSON was told to do LATE STEPS ago (0: in this one; stay, if there weren't so many), the other hand for the one.");
        for (int late = 0; late <= 4; late++) {
            for (int doing = 1; doing < 9; doing++) {
                LateMirror x = told("deep 9;person 4 late " + late + ";");
                for (int i = 0; i < 6; i++) {
                    int told = i == 0 ? doing : 0;
                    int due = i == late ? OTHER_HAND[doing] : 0;
                    due("would(0, " + told + ") late " + late, x.would(0, told), due);
                    x.step(told);
                    due("copy(0, 4) late " + late + " in step " + i, x.copy(0, 4), due);
                }
            }
        }
        // Told is told, whether it could or not.
        LateMirror x = told("deep 3;person 0 late 1;rule:mine+at+bored=1 do fro;");
        x.step(TO);
        due("the person could not", x.person(0, 5), 0);
        due("bored once: the copy goes fro", x.copy(0, 0), 1);
        x.step(FRO);
        due("to is what the copy does then", x.copy(0, 4), TO);
        due("and it can", x.copy(0, 5), 1);
        due("it is at the frame", x.copy(0, 0), 0);
    }

    private static void bored() {
        says("BORED is how many STEPS on end, this one too, it was stay (9 at most).");
        LateMirror x = told("deep 9;person 4 late 2;rule:bored=3 do fro;");
        due("ahead of any", x.copy(0, 1), 0);
        x.step(TO);
        due("there was none so early: stay", x.copy(0, 1), 1);
        x.step(0);
        due("nor now", x.copy(0, 1), 2);
        x.step(0);
        due("to: it was not stay", x.copy(0, 1), 0);
        for (int i = 1; i <= 12; i++) {
            x.step(0);
            due("bored behind " + i, x.copy(0, 1), Math.min(i, 9));
            due("what it does in place of staying is no matter", x.copy(0, 0), i < 3 ? 3 : 4);
        }
        x.step(REACHL);
        due("9 still", x.copy(0, 1), 9);
        x.step(0);
        due("9 still", x.copy(0, 1), 9);
        x.step(0);
        due("it was to reach", x.copy(0, 1), 0);
        due("though it could not", x.copy(0, 5), 0);
        LateMirror y = told("deep 9;person 4 late 0;rule:bored=9 do to;rule:bored>9 do fro;");
        for (int i = 1; i <= 12; i++) {
            due("would() in step " + i, y.would(0, 0), i < 9 ? 0 : TO);
            y.step(0);
        }
    }

    private static void boredEach() {
        says("bored: BORED, as things are when it does it");
        String rules = "rule 0:bored=2 do fro;rule 1:bored=3 do fro;rule 2:bored=4 do fro;";
        LateMirror x = told("deep 9;person 4 late 0;person 4 late 0;person 4 late 0;" + rules);
        // The first stays from the first step on, the others from the second and the third on.
        int[] told = {9 * TO + 81 * TO, 81 * TO, 0, 0, 0, 0, 0};
        int[][] bored = {{1, 0, 0}, {2, 1, 0}, {3, 2, 1}, {4, 3, 2}, {5, 4, 3}, {6, 5, 4}, {7, 6, 5}};
        for (int i = 0; i < told.length; i++) {
            x.step(told[i]);
            for (int p = 0; p < 3; p++) {
                due("copy(" + p + ", 1) in step " + i, x.copy(p, 1), bored[i][p]);
                if (i > 1) due("its rule", x.copy(p, 4), bored[i][p] == p + 2 ? FRO : 0);
            }
        }
    }

    private static void firstRule() {
        says("The COPY does the DOING of the first RULE for it that holds, else the LATE one.");
        LateMirror x = told("deep 9;person 4 late 0;person 4 late 0;rule 1:1=1 do to;rule:late=3 do fro;rule:late<5 do putl;rule:late=5 do stay;");
        int[] first = {PUTL, PUTL, PUTL, PUTL, FRO, PUTR, 0, REACHR, REACHL};
        for (int d = 0; d < 9; d++) {
            due("would(0, " + d + ")", x.would(0, d), first[d]);
            due("would(1, " + d + ")", x.would(1, d), TO);
        }
        x.step(REACHL);
        due("no rule: the late one", x.copy(0, 4), REACHR);
        due("a rule", x.copy(1, 4), TO);
        // Its doing is the rule's, not that of the other hand.
        for (int d = 0; d < 9; d++) {
            LateMirror y = told("person 0 late 0;rule:late=0 do " + doing(d) + ";");
            y.step(0);
            due("do " + doing(d), y.copy(0, 4), d);
        }
    }

    /** What the copy of person 0 would do in its step: fro, if the truth holds. */
    private static int froBy(LateMirror x, int doing) {
        return x.would(0, doing) == FRO ? 1 : 0;
    }

    private static void names() {
        says("late: the LATE DOING's number, at: its CELL, mine: its PERSON's, left, right: 1 if that hand holds a THING, else 0, bored: BORED, as things are when it does it");
        for (int d = 0; d < 9; d++) {
            for (int n = 0; n < 10; n++) {
                LateMirror x = told("deep 9;person 4 late 0;rule:late=" + n + " do fro;rule:1=1 do stay;");
                due("late=" + n + " by " + d, froBy(x, d), OTHER_HAND[d] == n ? 1 : 0);
            }
        }
        for (int n = 0; n < 5; n++) {
            LateMirror x = told("deep 5;person 2 late 1;rule:at=" + n + " do fro;rule:1=1 do stay;");
            due("at, ahead of its step", froBy(x, TO), n == 2 ? 1 : 0);
            x = told("deep 5;person 2 late 1;rule:mine=" + n + " do fro;rule:1=1 do stay;");
            due("mine behind to", froBy(x, TO), n == 1 ? 1 : 0);
            due("mine behind stay", froBy(x, 0), n == 2 ? 1 : 0);
            due("mine behind fro", froBy(x, FRO), n == 3 ? 1 : 0);
            due("mine behind takel", froBy(x, TAKEL), n == 2 ? 1 : 0);
        }
        due("mine at the frame", froBy(told("person 0 late 1;rule:mine=0 do fro;"), TO), 1);
        due("mine at the last", froBy(told("person 4 late 1;rule:mine=4 do fro;"), FRO), 1);
        String text = "deep 2;person 0 late 0;thing 0 there;thing 0 there;rule:late=0 and left+10*right=";
        int[][] takes = {{}, {TAKER}, {TAKEL}, {TAKEL, TAKER}};
        int[] values = {0, 1, 10, 11};
        for (int i = 0; i < 4; i++) {
            for (int value : values) {
                LateMirror x = told(text + value + " do fro;");
                for (int take : takes[i]) x.step(take);
                due("left + 10 right = " + value + " by row " + i, froBy(x, 0), values[i] == value ? 1 : 0);
            }
        }
        LateMirror x = told("deep 5;person 2 late 0;rule:bored=1 do fro;rule:bored=2 do to;rule:bored=0 do putl;");
        due("bored, this step too", x.would(0, 0), FRO);
        due("bored no more", x.would(0, TO), PUTL);
        x.step(0);
        due("bored, this step too", x.would(0, 0), TO);
        due("bored no more", x.would(0, TO), PUTL);
    }

    private static int holds(String truth) {
        return froBy(told("deep 9;person 4 late 0;rule:" + truth + " do fro;"), 0);
    }

    private static void keptSums() {
        says("each + - * kept from -1,000,000 to 1,000,000.");
        String most = "500*500*4";
        String least = "(0-" + most + ")";
        String[] hold = {
            most + "=999*999+999+999+1", most + ">999*999+999+999", most + "+1=" + most, most + "+1-1=999*999+999+999",
            most + "+999-1=999*999+999+999", "500*500*5=" + most, "999*999*2=" + most, "999*999+999*999=" + most,
            most + "*(" + most + ")=" + most, most + "*" + least + "=" + least, least + "*" + least + "=" + most,
            "(" + most + ")*(" + most + ")*(" + most + ")=" + most, least + "-1=" + least, least + "-1+1=0-999*999-999-999",
            least + "<0-999*999-999-999", least + "+" + least + "=" + least, least + "-" + most + "=" + least,
            most + "-" + least + "=" + most, least + "+" + most + "=0", most + "*0=0", least + "*0=0",
            "999*999*999-999*999=999+999+1", "0-999*999*999+999*999=0-999-999-1", most + "-1=999*999+999+999"};
        for (String truth : hold) due(truth, holds(truth), 1);
    }

    private static void passing() {
        says("each with the first COPY that reached with the other hand (left with right)");
        LateMirror x = told("deep 2;person 0 late 0;thing 0;");
        x.step(TAKEL);
        due("reachr: that hand is empty, so is the copy's", x.step(REACHR), 0);
        due("reachl", x.step(REACHL), 1);
        due("to the right hand", x.thing(0), 31);
        due("reachr: the copy's left one is empty", x.step(REACHR), 0);
        due("reachl: and back", x.step(REACHL), 1);
        due("to the left hand", x.thing(0), 20);
        LateMirror same = told("deep 2;person 0 late 0;thing 0;rule:late=8 do reachl;rule:late=7 do reachr;");
        same.step(TAKEL);
        due("left with left", same.step(REACHL), 0);
        due("right with right", same.step(REACHR), 0);
        says("PEOPLE by numbers who reached (and could) in this STEP");
        LateMirror far = told("deep 2;person 1 late 0;thing 1;rule:at=1 do to;rule:late=0 do reachr;");
        far.step(TAKEL);
        far.step(0);
        due("the copy is at the frame", far.copy(0, 0), 0);
        due("the person is not", far.step(REACHL), 0);
        due("the copy reached", far.copy(0, 4) * 10 + far.copy(0, 5), 81);
        far.step(TO);
        due("nobody reached", far.thing(0), 20);
        due("now it did", far.step(REACHL), 1);
        LateMirror away = told("deep 2;person 0 late 0;person 1 late 0;thing 0;rule 0:late>6 do stay;rule 1:1=1 do reachr;");
        away.step(TAKEL);
        due("a copy that could not reach", away.step(REACHL), 0);
        due("it could not", away.copy(1, 4) * 10 + away.copy(1, 5), 80);
        says("and of both of whose hands just one holds a THING: that comes to the other's hand.");
        LateMirror none = told("deep 2;person 0 late 0;");
        due("neither holds one", none.step(REACHL), 0);
        LateMirror both = told("deep 2;person 0 late 0;thing 0;thing 0 there;");
        both.step(TAKEL);
        due("both hold one", both.step(REACHL), 0);
        due("of the other ones neither does", both.step(REACHR), 0);
        LateMirror get = told("deep 2;person 0 late 0;thing 0 there;");
        get.step(TAKER);
        due("the copy's left one", get.thing(0), 30);
        due("comes here", get.step(REACHR), 1);
        due("to the right hand", get.thing(0), 21);
    }

    private static void passingOnce() {
        says("has passed nothing in this STEP yet");
        // Two reach with what they hold, one copy alone answers.
        LateMirror one = told("deep 2;person 0 late 0;person 0 late 0;thing 0;thing 0;rule 1:late>6 do stay;");
        one.step(TAKEL + 9 * TAKEL);
        due("one passes", one.step(REACHL + 9 * REACHL), 1);
        due("that of the first", one.thing(0), 31);
        due("not that of the other", one.thing(1), 22);
        // What the first gave, the other, whose hand is empty, does not get in the same step.
        LateMirror through = told("deep 2;person 0 late 0;person 0 late 0;thing 0;rule 1:late>6 do stay;");
        through.step(TAKEL);
        due("not through a copy", through.step(REACHL + 9 * REACHL), 1);
        due("it is there", through.thing(0), 31);
        due("but in the next step", through.step(9 * REACHL), 0);
        LateMirror next = told("deep 2;person 0 late 0;person 0 late 0;thing 0;");
        next.step(TAKEL);
        next.step(REACHL);
        due("both reach", next.step(REACHL + 9 * REACHL), 1);
        due("the first gets it", next.thing(0), 20);
        // Copy 0 holds one as person 0 does: the first that can is copy 1; person 1 gets that of copy 0.
        LateMirror cross = told("deep 2;person 0 late 0;person 0 late 0;thing 0;thing 0 there;");
        cross.step(TAKEL);
        due("two pass", cross.step(REACHL + 9 * REACHL), 2);
        due("thing(0)", cross.thing(0), 33);
        due("thing(1)", cross.thing(1), 22);
        LateMirror three = told("deep 2;person 0 late 0;person 0 late 0;person 0 late 0;thing 0;thing 0;thing 0;thing 0;");
        three.step(TAKEL + 9 * TAKEL + 81 * TAKEL);
        due("three pass", three.step(REACHL + 9 * REACHL + 81 * REACHL), 3);
        int[] behind = {31, 33, 35, 0};
        for (int t = 0; t < 4; t++) due("thing(" + t + ")", three.thing(t), behind[t]);
        due("and back", three.step(REACHL + 9 * REACHL + 81 * REACHL), 3);
        due("the last alone: its own copy alone reaches", three.step(81 * REACHL), 1);
        due("thing(2)", three.thing(2), 35);
    }

    private static void passingOnceOthers() {
        says("has passed nothing in this STEP yet");
        String people = "deep 2;person 0 late 0;person 0 late 0;person 0 late 0;thing 0;";
        for (int copy = 0; copy < 3; copy++) {
            StringBuilder rules = new StringBuilder();
            for (int p = 0; p < 3; p++) if (p != copy) rules.append("rule ").append(p).append(":late>6 do stay;");
            // This copy alone reaches. What the first gives it, neither of the others gets in the same step.
            LateMirror x = told(people + rules);
            x.step(TAKEL);
            due("only to the copy", x.step(REACHL * 91), 1);
            due("it is there", x.thing(0), 31 + 2 * copy);
            due("and back to the first", x.step(REACHL * 91), 1);
            due("it is here", x.thing(0), 20);
        }
    }

    private static void doingsAsNumber() {
        says("DOINGS as a number: that of PERSON p times 9 to the p-th, together.");
        String[] texts = {"", "person 0;", "person 0;person 0;", "person 0;person 0;person 0;"};
        int[] nines = {1, 9, 81, 729};
        for (int people = 0; people <= 3; people++) {
            LateMirror x = told(texts[people]);
            due("the last of " + people, x.step(nines[people] - 1), 0);
            for (int p = 0; p < people; p++) due("person(" + p + ", 4)", x.person(p, 4), 8);
            due("the first", x.step(0), 0);
            for (int p = 0; p < people; p++) due("person(" + p + ", 4)", x.person(p, 4), 0);
            due("-3: no such DOINGS", x.step(nines[people]), -3);
            due("-3: no such DOINGS", x.step(-1), -3);
            due("two steps", x.count(5), 2);
        }
        LateMirror x = told(texts[3]);
        x.step(3 + 9 * 7 + 81 * 5);
        due("person(0, 4)", x.person(0, 4), 3);
        due("person(1, 4)", x.person(1, 4), 7);
        due("person(2, 4)", x.person(2, 4), 5);
        says("-3: no such DOINGS (9 to the number of PEOPLE and more).");
        due("step(729)", x.step(729), -3);
        due("step(728)", x.step(728), 0);
        says("HOURS in a TRAY: such numbers, one STEP each.");
        fill(x, 0, 728, 0, 728, 729);
        due("perform(0)", x.perform(0), 3);
        due("count(5)", x.count(5), 5);
    }

    private static void places() {
        says("PLACES of THINGS: CELL c HERE: c, THERE: 10 and c; PERSON p's left hand 20 and 2 p, right one 21 and 2 p; COPY's 30 and 2 p, 31 and 2 p.");
        for (int c = 0; c < 9; c++) {
            due("here", told("deep 9;thing " + c + ";").thing(0), c);
            due("there", told("deep 9;thing " + c + " there;").thing(0), 10 + c);
        }
        String people = "deep 2;person 0 late 0;person 0 late 0;person 0 late 0;";
        int[] nines = {1, 9, 81};
        for (int p = 0; p < 3; p++) {
            LateMirror x = told(people + "thing 0;thing 0;thing 0 there;thing 0 there;");
            x.step(TAKEL * nines[p]);
            x.step(TAKER * nines[p]);
            due("left hand", x.thing(0), 20 + 2 * p);
            due("right hand", x.thing(1), 21 + 2 * p);
            due("copy's right hand", x.thing(2), 31 + 2 * p);
            due("copy's left hand", x.thing(3), 30 + 2 * p);
        }
    }

    private static void undone() {
        says("Calls that did some STEP, debts told, or CLEARED some, can be UNDONE each as a whole, the latest first");
        LateMirror x = told("deep 9;person 4 late 0;person 4;");
        fill(x, 0, 2, 2, 2);
        fill(x, 1, 81, 2);
        fill(x, 2);
        x.step(1);
        x.perform(0);
        due("no step: nothing to undo", x.perform(1) + x.perform(2), 0);
        x.day(99, 5);
        x.lends(0, 1, 4);
        x.lends(1, 0, 6);
        due("clear()", x.clear(), 8);
        due("nothing more to clear", x.clear(), 0);
        x.step(-1);
        x.lends(0, 0, 1);
        x.day(1, 0);
        due("six calls", x.count(6), 6);
        due("steps", x.count(5), 9);
        due("clear() is undone", x.undo(1), 5);
        due("owes(0, 1)", x.owes(0, 1, false), 4);
        due("owes(1, 0)", x.owes(1, 0, false), 6);
        due("a debt is undone", x.undo(1), 4);
        due("owes(1, 0)", x.owes(1, 0, false), 0);
        due("owes(0, 1)", x.owes(0, 1, false), 4);
        due("another one is undone", x.undo(1), 3);
        due("owes(0, 1)", x.owes(0, 1, false), 0);
        due("count(5)", x.count(5), 9);
        due("a day is undone", x.undo(1), 2);
        due("count(5)", x.count(5), 4);
        due("person(0, 0)", x.person(0, 0), 6);
        due("hours are undone", x.undo(1), 1);
        due("count(5)", x.count(5), 1);
        due("person(0, 0)", x.person(0, 0), 3);
        due("a step is undone", x.undo(1), 0);
        due("count(5)", x.count(5), 0);
        due("person(0, 0)", x.person(0, 0), 4);
        due("nobody's step, too", steppedNobody().undo(1), 0);
    }

    private static LateMirror steppedNobody() {
        LateMirror x = new LateMirror();
        x.step(0);
        return x;
    }

    private static void tenAtMost() {
        says("10 at most (eldest are forgotten)");
        for (int calls = 9; calls <= 25; calls++) {
            LateMirror x = told("deep 9;person 0;");
            for (int i = 0; i < calls; i++) x.step(i % 9);
            int kept = Math.min(10, calls);
            due("count(6) behind " + calls, x.count(6), kept);
            due("one more than can be", x.undo(kept + 1), -3);
            for (int i = 1; i <= kept; i++) {
                due("undo(1)", x.undo(1), kept - i);
                due("count(5)", x.count(5), calls - i);
                due("person(0, 4)", x.person(0, 4), calls == i ? -1 : (calls - i - 1) % 9);
            }
            due("no more", x.undo(1), -3);
        }
        says("n (1 to 10) calls are UNDONE: how many still can be. -3: n, more than can be.");
        for (int n = -1; n <= 12; n++) {
            LateMirror x = told("deep 9;person 0;");
            for (int i = 0; i < 12; i++) x.step(0);
            boolean can = n >= 1 && n <= 10;
            due("undo(" + n + ")", x.undo(n), can ? 10 - n : -3);
            due("count(5)", x.count(5), can ? 12 - n : 12);
            due("count(6)", x.count(6), can ? 10 - n : 10);
        }
        LateMirror x = told("person 0;");
        due("undo(1) of nothing", x.undo(1), -3);
        for (int i = 0; i < 3; i++) x.step(0);
        due("undo(4) of three", x.undo(4), -3);
        due("undo(2)", x.undo(2), 1);
        for (int i = 0; i < 9; i++) x.step(0);
        due("ten again", x.count(6), 10);
        due("undo(10)", x.undo(10), 0);
        due("to the beginning", x.count(5), 0);
    }

    private static void allIsAsItWas() {
        says("all but THE ARCADE is as it was, STEPS counted and what was told and done last, too.");
        LateMirror x = told("deep 4;person 1 late 4;person 0 late 0;thing 1;thing 0 there;");
        x.step(TAKEL + 9 * TAKER);
        x.step(FRO + 9 * REACHL);
        long[] before = observed(x);
        x.step(PUTL + 9 * FRO);
        x.lends(0, 1, 5);
        x.day(7, 9);
        due("undo(3)", x.undo(3), 2);
        dueSame(before, observed(x), -1);
        x.undo(2);
        due("told nothing", x.person(0, 4), -1);
        due("could nothing", x.person(0, 5), 0);
        due("done nothing", x.copy(1, 4), -1);
        due("could nothing", x.copy(1, 5), 0);
        due("not bored", x.copy(0, 1), 0);
        LateMirror y = told("deep 5;person 0;");
        y.step(0);
        tell(y, "deep 7;person 1;");
        y.step(FRO);
        y.undo(1);
        due("the arcade stays", y.count(0), 7);
        due("the step ahead of it is no matter", y.undo(1), -3);
    }

    private static void person() {
        says("4: what it was told to do in the last STEP (NONE ahead of any), 5: 1 if it could, else 0.");
        LateMirror x = told("deep 2;person 0;");
        due("person(0, 4)", x.person(0, 4), -1);
        due("person(0, 5)", x.person(0, 5), 0);
        for (int d = 0; d < 9; d++) {
            int can = x.can(0, d);
            x.step(d);
            due("told", x.person(0, 4), d);
            due("could", x.person(0, 5), can);
        }
        says("Of a PERSON, what 0: its CELL, 1: LATE, 2, 3: the THING in its left, right hand (NONE)");
        LateMirror y = told("deep 9;person 8 late 4;thing 8;thing 8;");
        y.step(TAKER);
        y.step(TAKEL);
        int[] all = {8, 4, 1, 0, 3, 1};
        for (int what = 0; what < 6; what++) due("person(0, " + what + ")", y.person(0, what), all[what]);
    }

    private static void copy() {
        says("4: what it did, or could not, in the last STEP (NONE), 5: 1 if it could, else 0.");
        LateMirror x = told("deep 2;person 1 late 0;");
        due("copy(0, 4)", x.copy(0, 4), -1);
        due("copy(0, 5)", x.copy(0, 5), 0);
        x.step(FRO);
        due("it could not", x.copy(0, 4), FRO);
        due("it could not", x.copy(0, 5), 0);
        x.step(TO);
        due("it did", x.copy(0, 4), TO);
        due("it did", x.copy(0, 5), 1);
        says("Of a PERSON's COPY, what 0: its CELL, 1: BORED, 2, 3: the THING in its left, right hand (NONE)");
        LateMirror y = told("deep 9;person 8 late 1;thing 8 there;thing 8 there;");
        y.step(TAKER);
        y.step(TAKEL);
        y.step(0);
        y.step(0);
        int[] all = {8, 1, 0, 1, 0, 1};
        for (int what = 0; what < 6; what++) due("copy(0, " + what + ")", y.copy(0, what), all[what]);
    }

    private static void thingAndCan() {
        says("`int thing(int t)`: The PLACE of a THING. -2.");
        LateMirror x = told("deep 2;thing 1;thing 0;thing 1 there;");
        int[] places = {-2, 1, 0, 11, -2, -2};
        for (int t = -1; t <= 4; t++) due("thing(" + t + ")", x.thing(t), places[t + 1]);
        says("Whether a PERSON can do a DOING now: 1, 0. -2: one of both.");
        LateMirror y = told("deep 2;person 0;thing 0;");
        int[] first = {-2, 1, 0, 1, 1, 1, 0, 0, 1, 1, -2};
        for (int d = -1; d <= 9; d++) due("can(0, " + d + ")", y.can(0, d), first[d + 1]);
        y.step(TAKER);
        y.step(FRO);
        int[] then = {-2, 1, 1, 0, 0, 0, 0, 1, 0, 0, -2};
        for (int d = -1; d <= 9; d++) due("can(0, " + d + ")", y.can(0, d), then[d + 1]);
    }

    private static void would() {
        says("What a COPY would do in a STEP in which its PERSON is told to do a DOING, all others stay. -2.");
        LateMirror x = told("deep 2;person 0 late 0;person 0 late 1;rule 1:mine=0 do to;");
        due("it can't, but it would", x.would(0, TO), TO);
        due("the other one's doing is no matter", x.would(1, FRO), 0);
        due("mine", x.would(1, 0), TO);
        x.step(9 * REACHR);
        due("late", x.would(1, FRO), REACHL);
        due("a rule", x.would(1, 0), TO);
        due("nothing was done", x.count(5), 1);
        int[] codes = {-2, 0, 1, 2, 4, 3, 6, 5, 8, 7, -2};
        for (int d = -1; d <= 9; d++) due("would(0, " + d + ")", x.would(0, d), codes[d + 1]);
    }

    private static void step() {
        says("`int step(int doings)`: A STEP: how many THINGS passed.");
        LateMirror x = told("deep 2;person 0 late 0;person 0 late 0;person 0 late 0;thing 0;thing 0;thing 0;");
        due("taken, none passed", x.step(TAKEL * 91), 0);
        for (int n = 0; n <= 3; n++) {
            int doings = 0;
            for (int p = 0; p < n; p++) doings = doings * 9 + REACHL;
            due(n + " pass", x.step(doings), n);
            x.undo(1);
        }
    }

    private static void judge() {
        says("HOURS, judged as if done up to the first that can't be, what 0: the first place that is no DOINGS (NONE), 1: STEPS up to there, 2: THINGS that passed in these, 3: how often COPIES could not.");
        LateMirror x = told("deep 2;person 0 late 0;person 0 late 0;thing 0;");
        // takel, pass, both copies can't go to, pass back, then none such, then what would pass again.
        fill(x, 0, TAKEL, REACHL, TO + 9 * TO, REACHL, 81, REACHL);
        // The copies of those who took and went to could not: one in the first, two in the third.
        int[] answers = {4, 4, 2, 3};
        for (int what = 0; what < 4; what++) due("judge(0, " + what + ")", x.judge(0, what), answers[what]);
        due("as if done", x.count(5) + x.count(6) + x.thing(0), 0);
        fill(x, 0, 81);
        int[] none = {0, 0, 0, 0};
        for (int what = 0; what < 4; what++) due("none can be: judge(0, " + what + ")", x.judge(0, what), none[what]);
        fill(x, 0);
        int[] empty = {-1, 0, 0, 0};
        for (int what = 0; what < 4; what++) due("empty: judge(0, " + what + ")", x.judge(0, what), empty[what]);
        x.numbers(0, 0, 40);
        int[] full = {-1, 40, 0, 0};
        for (int what = 0; what < 4; what++) due("full: judge(0, " + what + ")", x.judge(0, what), full[what]);
        x.write(0, 39, 81);
        due("the last can't be", x.judge(0, 0), 39);
        x.write(0, 39, -1);
        due("the last can't be", x.judge(0, 0), 39);
        for (long no : new long[] {-1, 81, 1L << 32, -1L << 32, Long.MIN_VALUE, Long.MAX_VALUE}) {
            fill(x, 0, 80, no);
            due("judge() of " + no, x.judge(0, 0), 1);
        }
        LateMirror nobody = new LateMirror();
        fill(nobody, 0, 0, 0, 1);
        due("nobody", nobody.judge(0, 0), 2);
    }

    private static void perform() {
        says("They are done, up to the first that are no DOINGS: how many STEPS.");
        LateMirror x = told("deep 9;person 0 late 0;");
        fill(x, 0, 2, 2, 9, 2);
        due("perform(0)", x.perform(0), 2);
        due("person(0, 0)", x.person(0, 0), 2);
        due("count(5)", x.count(5), 2);
        fill(x, 0, -1, 2);
        due("none can be", x.perform(0), 0);
        due("count(6)", x.count(6), 1);
        due("what was done last stays", x.person(0, 4), 2);
        fill(x, 0);
        due("there is none", x.perform(0), 0);
        due("count(6)", x.count(6), 1);
        x.numbers(0, 0, 40);
        due("forty", x.perform(0), 40);
        due("count(5)", x.count(5), 42);
        due("one call", x.undo(1), 1);
        due("count(5)", x.count(5), 2);
    }

    private static void day() {
        says("so many STEPS (1 to 60): PERSON by PERSON its DOING is DRAW modulo 9.");
        LateMirror x = told("deep 3;person 0 late 0;person 0;thing 0;thing 0;thing 0 there;");
        due("one step", x.day(1, 1) < 0 ? 1 : 0, 0);
        due("count(5)", x.count(5), 1);
        due("sixty", x.day(1, 60) < 0 ? 1 : 0, 0);
        due("count(5)", x.count(5), 61);
        says("-3: how many STEPS; -5: nobody.");
        for (int steps : new int[] {0, -1, 61, Integer.MIN_VALUE, Integer.MAX_VALUE}) {
            due("day(1, " + steps + ")", x.day(1, steps), -3);
            due("nobody: day(1, " + steps + ")", new LateMirror().day(1, steps), -3);
        }
        due("nobody", new LateMirror().day(1, 1), -5);
        due("nobody", new LateMirror().day(1, 60), -5);
        due("count(5)", x.count(5), 61);
    }

    private static void draws() {
        says("A DAY by a SEED (x, an int; a DRAW: x becomes 1103515245 x + 12345, it is x >>> 16)");
        int[] seeds = {0, 1, -1, 42, 65535, 65536, Integer.MIN_VALUE, Integer.MAX_VALUE};
        for (int seed : seeds) {
            LateMirror x = told("deep 3;person 0 late 0;person 0;person 1 late 0;thing 0;thing 0;thing 0 there;thing 1;");
            LateMirror y = told("deep 3;person 0 late 0;person 0;person 1 late 0;thing 0;thing 0;thing 0 there;thing 1;");
            // In numbers without a bound, cut to 32 bits by hand.
            java.math.BigInteger draw = java.math.BigInteger.valueOf(seed);
            int passed = 0;
            for (int i = 0; i < 60; i++) {
                int doings = 0;
                for (int nine = 1; nine <= 81; nine *= 9) {
                    draw = draw.multiply(java.math.BigInteger.valueOf(1103515245)).add(java.math.BigInteger.valueOf(12345));
                    draw = draw.mod(java.math.BigInteger.ONE.shiftLeft(32));
                    doings += draw.shiftRight(16).intValue() % 9 * nine;
                }
                passed += y.step(doings);
            }
            due("day(" + seed + ", 60)", x.day(seed, 60), passed);
            for (int p = 0; p < 3; p++) {
                for (int what = 0; what < 6; what++) {
                    due("person(" + p + ", " + what + ")", x.person(p, what), y.person(p, what));
                    due("copy(" + p + ", " + what + ")", x.copy(p, what), y.copy(p, what));
                }
            }
            for (int t = 0; t < 4; t++) due("thing(" + t + ")", x.thing(t), y.thing(t));
        }
        // 0 becomes 12345, which is 0 behind 16 bits; then 3554416254, 54236 of which 2 are left by nines.
        LateMirror first = told("deep 9;person 4;person 4;");
        first.day(0, 1);
        due("the first draw", first.person(0, 4), 0);
        due("the second draw", first.person(1, 4), (int) ((1103515245L * 12345 + 12345 & 0xFFFFFFFFL) >> 16) % 9);
        due("the second draw", first.person(1, 4), 54236 % 9);
    }

    private static void fails() {
        says("By HOURS, as if done (as judge()), what 0: the first STEP in which a COPY could not, 1: the first such COPY. NONE: none");
        LateMirror x = told("deep 3;person 0 late 0;person 2 late 0;person 1 late 1;");
        long[][] rows = {{TO}, {9 * FRO}, {TO + 9 * FRO}, {81 * REACHL, 0}, {0, 0, 9 * FRO, TO}, {0, 729, TO}, {-1, TO}, {0}, {}};
        int[] steps = {0, 0, 0, 1, 2, -1, -1, -1, -1};
        int[] copies = {0, 1, 0, 2, 1, -1, -1, -1, -1};
        for (int i = 0; i < rows.length; i++) {
            fill(x, 0, rows[i]);
            due("the first step of row " + i, x.fails(0, 0), steps[i]);
            due("the first copy of row " + i, x.fails(0, 1), copies[i]);
        }
        x.numbers(0, 1, 40);
        x.write(0, 39, TO);
        due("in the fortieth", x.fails(0, 0), 39);
        due("as if done", x.count(5), 0);
    }

    private static void roundNumbers() {
        says("NONE: not so; -2; -6; -4: not 1 to 10 numbers; -3: one is no DOINGS.");
        LateMirror x = told("person 0;");
        for (int n = 0; n <= 12; n++) {
            x.numbers(0, 0, n);
            // Each time is n steps: bored behind 9 of them.
            due("round(0, 0) of " + n, x.round(0, 0), n >= 1 && n <= 10 ? 1 : -4);
            due("round(0, 1) of " + n, x.round(0, 1), n >= 1 && n <= 10 ? (9 + n - 1) / n : -4);
        }
        x.numbers(0, 0, 40);
        due("forty", x.round(0, 0), -4);
        x.numbers(0, 0, 10);
        x.write(0, 9, 8);
        due("the last doings", x.round(0, 0), 1);
        x.write(0, 9, 9);
        due("no doings", x.round(0, 0), -3);
        x.write(0, 9, -1);
        due("no doings", x.round(0, 0), -3);
    }

    private static void roundTimes() {
        says("ROUND by HOURS, again and again: behind how many times (0 to 200) all is ALIKE as behind some more, the least, and how many times more.");
        LateMirror nobody = new LateMirror();
        fill(nobody, 0, 0);
        due("nobody: behind none", nobody.round(0, 1), 0);
        due("nobody: once more", nobody.round(0, 0), 1);
        String carry = "rule:left=1 and at<mine do fro;rule:left=1 do putl;rule:right=1 and at>0 do to;"
            + "rule:right=1 do putr;rule:at=0 do takel;rule:1=1 do taker;";
        String[] texts = {
            "deep 9;person 8;person 7;thing 8 there;thing 7 there;",
            "deep 9;person 1;person 6;person 6;thing 1 there;thing 6 there;",
            "deep 6;person 0;person 3;person 5;thing 3 there;thing 5 there;",
            "deep 5;person 1;person 4;person 4;thing 1 there;thing 4 there;",
            "deep 9;person 8;person 7;person 5;thing 8 there;thing 7 there;thing 5 there;"};
        int[] behind = {10, 9, 81, -1, -1};
        int[] more = {180, 186, 119, -1, -1};
        for (int i = 0; i < texts.length; i++) {
            LateMirror x = told(texts[i] + carry);
            fill(x, 0, 0);
            due("behind how many, of arcade " + i, x.round(0, 1), behind[i]);
            due("how many more, of arcade " + i, x.round(0, 0), more[i]);
        }
        // The same said by steps: the third is as behind 81 behind 200 for the first time, the fourth behind 201 only.
        dueComesRound(texts[2] + carry, 81, 200);
        dueComesRound(texts[3] + carry, 63, 201);
        // From where it is now, not from the beginning.
        LateMirror x = told("deep 9;person 4 late 0;");
        fill(x, 0, 0);
        for (int i = 0; i < 12; i++) {
            due("behind how many from step " + i, x.round(0, 1), Math.max(0, 9 - i));
            due("how many more from step " + i, x.round(0, 0), 1);
            x.step(0);
        }
        // What was told in the last 4 steps is looked at, though the copy was late by 0 only.
        x.step(TO);
        x.step(FRO);
        for (int i = 0; i < 9; i++) x.step(0);
        due("four and more ago is no matter", x.round(0, 1), 0);
        LateMirror y = told("deep 9;person 4 late 0;rule:1=1 do stay;");
        for (int i = 0; i < 9; i++) y.step(0);
        fill(y, 0, 0, 0, 0, TAKEL);
        due("one of four: at once, and bored again", y.round(0, 1), 1);
        due("one of four", y.round(0, 0), 1);
    }

    /** Steps of all staying are alike first behind so many, as behind some before. */
    private static void dueComesRound(String text, int before, int behind) {
        java.util.List<String> states = new java.util.ArrayList<>();
        int first = -1;
        for (int i = 0; i <= 210 && first < 0; i++) {
            String state = stateBehind(text, i);
            first = states.indexOf(state);
            if (first < 0) states.add(state);
        }
        due("alike as behind", first, before);
        due("alike behind", states.size(), behind);
    }

    /** Each on an object of its own, which is used for few calls then. */
    private static String stateBehind(String text, int steps) {
        LateMirror x = told(text);
        x.numbers(0, 0, 40);
        for (int i = 0; i < steps / 40; i++) x.perform(0);
        x.numbers(0, 0, steps % 40);
        x.perform(0);
        StringBuilder b = new StringBuilder();
        for (int p = 0; p < 3; p++) b.append(x.person(p, 0)).append(' ').append(x.copy(p, 0)).append(' ').append(x.copy(p, 1)).append(' ');
        for (int t = 0; t < 4; t++) b.append(x.thing(t)).append(' ');
        return b.toString();
    }
}
