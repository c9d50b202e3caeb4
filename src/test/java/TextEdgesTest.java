/** Each sentence of ==== 1, and of the promises 1 to 4, that names a boundary case. */
public final class TextEdgesTest extends Asking {
    public static void main(String[] args) {
        newObject();
        feed();
        arcade();
        faultAnswers();
        lengthOfText();
        eachByItself();
        behindAFault();
        lines();
        truths();
        sumsAndTerms();
        within();
        doings();
        deep();
        deepAhead();
        people();
        things();
        rules();
        miss();
        laterOnes();
        tokens();
        numbersAndBlanks();
        firstFault();
        leastKind();
        kindOne();
        kindTwo();
        theEnd();
        kindThree();
        kindFour();
        end();
    }

    private static void newObject() {
        says("`LateMirror()`: 5 deep, nobody.");
        LateMirror x = new LateMirror();
        int[] counts = {5, 0, 0, 0, 0, 0, 0, 0, 0, -1};
        for (int i = 0; i < counts.length; i++) due("count(" + i + ")", x.count(i), counts[i]);
        due("person(0, 0)", x.person(0, 0), -2);
        due("copy(0, 0)", x.copy(0, 0), -2);
        due("thing(0)", x.thing(0), -2);
        due("the last cell there is", tell(x, "person 4;"), 1);
        says("(without one: 5 deep, nobody)");
        due("fault(0)", new LateMirror().fault(0), 0);
        due("fault(1)", new LateMirror().fault(1), -1);
        due("nobody's doings", new LateMirror().step(0), 0);
        due("nobody's doings end at 1", new LateMirror().step(1), -3);
        says("`NONE = -1`: There is none.");
        due("NONE", LateMirror.NONE, -1);
        says("`SPENT = -1000`: Too many states were met.");
        due("SPENT", LateMirror.SPENT, -1000);
    }

    private static void feed() {
        says("Twenty bytes come behind those on THE TAPE, the highest of each int first: how many it has.");
        LateMirror x = new LateMirror();
        // deep 2;person 1;mis | s 9;thing 0;thing 1;
        due("feed()", x.feed(0x64656570, 0x20323B70, 0x6572736F, 0x6E20313B, 0x6D697373), 20);
        due("feed()", x.feed(0x20393B74, 0x68696E67, 0x20303B74, 0x68696E67, 0x20313B20), 40);
        due("count(7)", x.count(7), 40);
        due("arcade(39)", x.arcade(39), 5);
        int[] counts = {2, 1, 2, 0, 9, 0, 0, 0, 5};
        for (int i = 0; i < counts.length; i++) due("count(" + i + ")", x.count(i), counts[i]);
        due("the highest bit", x.feed(0x80202020, 0, 0, 0, 0), 20);
        due("is a byte of 128", x.arcade(1), -31);
        says("-5: it would have more than 900.");
        LateMirror y = new LateMirror();
        for (int i = 1; i <= 45; i++) due("feed() for the " + i + "th time", y.feed(0x20202020, 0x20202020, 0x20202020, 0x20202020, 0x20202020), 20 * i);
        due("feed() when it is full", y.feed(0, 0, 0, 0, 0), -5);
        due("and again", y.feed(0, 0, 0, 0, 0), -5);
        due("count(7)", y.count(7), 900);
        due("none of those came", y.arcade(900), 0);
        due("it has room again", y.feed(0, 0, 0, 0, 0), 20);
    }

    private static void arcade() {
        says("The first n bytes of THE TAPE (which is empty then) are THE ARCADE");
        LateMirror x = new LateMirror();
        feedAll(x, "deep 3;person 2;thing 1;rubbish!");
        due("arcade(24)", x.arcade(24), 3);
        due("the rest is gone, too", x.count(7), 0);
        due("arcade(1)", x.arcade(1), -3);
        says("no debts, nothing can be UNDONE: how many LINES");
        LateMirror y = told("person 0;person 1;");
        y.lends(0, 1, 9);
        y.step(1);
        y.day(4, 3);
        due("three calls", y.count(6), 3);
        due("arcade()", tell(y, "person 0;person 1;"), 2);
        due("count(6)", y.count(6), 0);
        due("undo(1)", y.undo(1), -3);
        due("owes(0, 1)", y.owes(0, 1, false), 0);
        due("count(5)", y.count(5), 0);
        due("person(0, 4)", y.person(0, 4), -1);
        due("copy(0, 4)", y.copy(0, 4), -1);
        due("copy(0, 1)", y.copy(0, 1), 0);
        due("no lines", y.arcade(0), 0);
        due("nobody", y.count(1), 0);
        says("(all stays with a FAULT)");
        LateMirror z = told("deep 7;miss 3;person 0;person 1;thing 2;rule:bored=9 do to;");
        z.lends(0, 1, 9);
        z.step(9 * 2);
        due("arcade()", tell(z, "deep 3;person 2;thing 0;miss 1;rule:1=1 do fro;deep 4;"), -32);
        int[] counts = {7, 2, 1, 1, 3, 1, 2, 0, 6};
        for (int i = 0; i < counts.length; i++) due("count(" + i + ")", z.count(i), counts[i]);
        due("person(1, 0)", z.person(1, 0), 2);
        due("thing(0)", z.thing(0), 2);
        due("would(0, 0)", z.would(0, 0), 0);
        due("owes(0, 1)", z.owes(0, 1, false), 9);
        due("undo(2)", z.undo(2), 0);
        says("-3: n is below 0 or above what there is (THE TAPE stays)");
        LateMirror t = new LateMirror();
        due("arcade(1) of nothing", t.arcade(1), -3);
        due("arcade(0) of nothing", t.arcade(0), 0);
        feedAll(t, "deep 9;             ");
        for (int n : new int[] {-1, 21, Integer.MIN_VALUE, Integer.MAX_VALUE}) due("arcade(" + n + ")", t.arcade(n), -3);
        due("count(7)", t.count(7), 20);
        due("arcade(20)", t.arcade(20), 1);
    }

    private static void faultAnswers() {
        says("Of the latest arcade() that was read, what 0: its FAULT (0), 1: its place (NONE).");
        LateMirror x = new LateMirror();
        tell(x, "deep 2;miss 10;");
        due("fault(0)", x.fault(0), 3);
        due("fault(1)", x.fault(1), 12);
        due("one that isn't read", x.arcade(1), -3);
        due("fault(0)", x.fault(0), 3);
        due("fault(1)", x.fault(1), 12);
        due("one without a fault", x.arcade(0), 0);
        due("fault(0)", x.fault(0), 0);
        due("fault(1)", x.fault(1), -1);
        says("NONE for others.");
        for (int what : new int[] {-1, 2, Integer.MIN_VALUE, Integer.MAX_VALUE}) {
            due("fault(" + what + ")", x.fault(what), -1);
            due("count(" + what + ")", x.count(what == 2 ? 9 : what), -1);
        }
    }

    private static void lengthOfText() {
        says("THE ARCADE is a TEXT of at most 900 bytes");
        String start = "deep 9;";
        String last = "thing 8;";
        good(start + times(" ", 900 - 15) + last, 2);
        good(times("miss 1;", 128) + "    ", 128);
        LateMirror x = new LateMirror();
        tell(x, start + times("\n", 900 - 15) + last);
        due("its last line is read", x.thing(0), 8);
        faulty(times(" ", 899) + ";", 2, 899);
        faulty(times(" ", 899) + "!", 1, 899);
        faulty(times("z", 900), 2, 0);
        faulty(times("7", 900), 1, 0);
        faulty("rule:" + times("1+", 447) + "1", 2, 900);
        // 1 + .. + 1, 433 of them, and the same with a * in place of each +.
        String long433 = "deep 9;person 4;rule:" + times("1+", 432) + "1=433 do fro;";
        due("its length", long433.length() <= 900 ? 1 : 0, 1);
        due("a long sum", told(long433).would(0, 0), 2);
        due("a long product", told("deep 9;person 4;rule:" + times("1*", 432) + "1=1 do fro;").would(0, 0), 2);
        due("a long row of or", told("deep 9;person 4;rule:" + times("1=2 or ", 120) + "1=1 do fro;").would(0, 0), 2);
        due("a long row of and", told("deep 9;person 4;rule:" + times("1=1 and ", 100) + "1=2 do fro;").would(0, 0), 0);
    }

    private static void eachByItself() {
        says("(without one: 5 deep, nobody)");
        LateMirror x = told("deep 9;miss 3;person 8 late 4;person 7;thing 8;thing 7;rule:1=1 do to;rule 1:1=1 do fro;");
        due("another text", tell(x, "person 4;"), 1);
        int[] counts = {5, 1, 0, 0, 0, 0, 0, 0, 1};
        for (int i = 0; i < counts.length; i++) due("count(" + i + ")", x.count(i), counts[i]);
        due("person(0, 1)", x.person(0, 1), 1);
        due("would(0, 1)", x.would(0, 1), 0);
        due("the cell that was there", tell(x, "person 5;"), -33);
        due("the person that was there", tell(x, "person 4;rule 1:1=1 do to;"), -33);
        due("three people again", tell(x, times("person 4;", 3)), 3);
        due("four things", tell(x, times("thing 4;", 4)), 4);
        due("deep with nobody ahead", tell(x, "deep 2;"), 1);
        // Eight long rules each time: however often, the last one is read to its end.
        LateMirror y = new LateMirror();
        String rule = "rule:" + times("1+", 40) + "1=42 do to;";
        String text = "person 4;" + times(rule, 7) + "rule:" + times("1+", 40) + "1=41 do fro;";
        for (int i = 0; i < 10; i++) {
            due("the text for the " + i + "th time", tell(y, text), 9);
            due("its last rule", y.would(0, 0), 2);
        }
    }

    private static void behindAFault() {
        says("(all stays with a FAULT)");
        // What one with a fault told, opened and left open is no matter to the next one.
        String[] faulty = {"deep 9;miss 9;person 8;person 8;person 8;thing 8;thing 8;thing 8;thing 8;rule:1=1 do to;!",
            "rule:[[[[[[1=1!", "rule:((((((1!", "rule:not not not not not not!", "rule:1=(((1!", "rule:1=1 and!", "rule:[1=1]!",
            "rule:[[[1=1]]!", "rule:[1=(1!", times("rule:1=1 do to;", 8) + "!"};
        for (String text : faulty) {
            LateMirror x = new LateMirror();
            due(text, tell(x, text), -31);
            due("six within one another", tell(x, "person 4;rule:[[[[[[1=2]]]]]] or not not[1=(((1))) and 1=1] do fro;rule:((((((1))))))=1 do to;"), 3);
            due("its first rule", x.would(0, 0), 2);
            due("all that can be", tell(x, times("person 4;", 3) + times("thing 4;", 4) + times("rule:1=1 do fro;", 8)), 15);
            due("count(0)", x.count(0), 5);
            due("count(4)", x.count(4), 0);
            due("a bracket that was open", tell(x, "rule:1=1] do to;"), -32);
            due("a sum that was open", tell(x, "rule:1)=1 do to;"), -32);
        }
    }

    private static void lines() {
        says("{ LINE ; } LINE: deep N | person N [ late N ] | thing N [ there ] | rule [ N ] : TRUTH do DOING | miss N.");
        good("", 0);
        good(" \n ", 0);
        good("miss 0;", 1);
        good("deep 2;person 1;person 1 late 2;thing 1;thing 1 there;rule:1=1 do to;rule 1:1=1 do to;miss 3;", 8);
        faulty("miss 0;;", 2, 7);
        faulty("miss 0 0;", 2, 7);
        faulty("person late 1;", 2, 7);
        faulty("person 0 late;", 2, 13);
        faulty("person 0 late 1 late 1;", 2, 16);
        faulty("person 0 1;", 2, 9);
        faulty("thing there;", 2, 6);
        faulty("thing 0 there there;", 2, 14);
        faulty("thing 0 0;", 2, 8);
        faulty("rule 1=1 do to;", 3, 5);
        faulty("rule do to;", 2, 5);
        faulty("rule: do to;", 2, 6);
        faulty("rule:1=1 to;", 2, 9);
        faulty("rule:1=1 do do;", 2, 12);
        faulty("rule:1=1 do to to;", 2, 15);
        faulty("rule:1=1 do ;", 2, 12);
        faulty("stay;", 2, 0);
    }

    /** Whether a rule of this truth holds for a copy at cell 4 of 9, whose person takes with the left hand. */
    private static int holds(String truth) {
        return told("deep 9;person 4 late 0;rule:" + truth + " do fro;").would(0, 3) == 2 ? 1 : 0;
    }

    private static void truths() {
        says("TRUTH: BOTH { or BOTH }; BOTH: UNIT { and UNIT }; UNIT: not UNIT, [ TRUTH ], or SUM, one of = < >, SUM.");
        String[] signs = {"1=1", "1=2"};
        for (int a = 0; a < 2; a++) {
            for (int b = 0; b < 2; b++) {
                due(signs[a] + " or " + signs[b], holds(signs[a] + " or " + signs[b]), a == 0 || b == 0 ? 1 : 0);
                due(signs[a] + " and " + signs[b], holds(signs[a] + " and " + signs[b]), a == 0 && b == 0 ? 1 : 0);
                for (int c = 0; c < 2; c++) {
                    String x = signs[a];
                    String y = signs[b];
                    String z = signs[c];
                    boolean ta = a == 0;
                    boolean tb = b == 0;
                    boolean tc = c == 0;
                    due("or, and " + a + b + c, holds(x + " or " + y + " and " + z), ta || tb && tc ? 1 : 0);
                    due("and, or " + a + b + c, holds(x + " and " + y + " or " + z), ta && tb || tc ? 1 : 0);
                    due("[or], and " + a + b + c, holds("[" + x + " or " + y + "] and " + z), (ta || tb) && tc ? 1 : 0);
                    due("and, [or] " + a + b + c, holds(x + " and [" + y + " or " + z + "]"), ta && (tb || tc) ? 1 : 0);
                    due("not, and, or " + a + b + c, holds("not " + x + " and " + y + " or " + z), !ta && tb || tc ? 1 : 0);
                    due("not [or], and " + a + b + c, holds("not [" + x + " or " + y + "] and " + z), !(ta || tb) && tc ? 1 : 0);
                    due("and not, or not " + a + b + c, holds(x + " and not " + y + " or not " + z), ta && !tb || !tc ? 1 : 0);
                }
            }
        }
        int[][] pairs = {{1, 1}, {1, 2}, {2, 1}};
        for (int[] p : pairs) {
            due(p[0] + "=" + p[1], holds(p[0] + "=" + p[1]), p[0] == p[1] ? 1 : 0);
            due(p[0] + "<" + p[1], holds(p[0] + "<" + p[1]), p[0] < p[1] ? 1 : 0);
            due(p[0] + ">" + p[1], holds(p[0] + ">" + p[1]), p[0] > p[1] ? 1 : 0);
        }
        faulty("rule:1=1=1 do to;", 2, 8);
        faulty("rule:1<1>1 do to;", 2, 8);
        faulty("rule:[1=1]=1 do to;", 2, 10);
        faulty("rule:[1=1][1=1] do to;", 2, 10);
        for (String sign : new String[] {"+", "-", "*"}) {
            faulty("rule:[1=1]" + sign + "1 do to;", 2, 10);
            faulty("rule:[1=1]" + sign + "1=1 do to;", 2, 10);
            faulty("rule:[[1=1]" + sign + "1] do to;", 2, 11);
        }
        faulty("rule:[1=1])=1 do to;", 2, 10);
        // Numbers that are bytes of signs are no signs.
        for (int n = 30; n <= 125; n++) {
            due(n + " and, or", holds("1=" + n + " and 1=1 or " + n + "=" + n), 1);
            faulty("rule:" + n + " and 1=1 do to;", 2, n < 100 ? 8 : 9);
        }
        faulty("rule:[1=1 do to;", 2, 10);
        faulty("rule:1=1] do to;", 2, 8);
        faulty("rule:[1+1] do to;", 2, 9);
        faulty("rule:[] do to;", 2, 6);
        faulty("rule:1=1 not 1=1 do to;", 2, 9);
        faulty("rule:1 not =1 do to;", 2, 7);
        faulty("rule:1+not 1=1 do to;", 2, 7);
        faulty("rule:1=1 and or 1=1 do to;", 2, 13);
        faulty("rule:or 1=1 do to;", 2, 5);
        faulty("rule:[1=1 or] do to;", 2, 12);
    }

    private static void sumsAndTerms() {
        says("SUM: TERM { + TERM | - TERM }; TERM: ATOM { * ATOM }; ATOM: N, late, at, mine, left, right, bored, ( SUM ).");
        String[] hold = {"0=0", "999=999", "2+3*4=14", "(2+3)*4=20", "2*3+4=10", "2*(3+4)=14", "9-5-3=1", "9-(5-3)=7",
            "9-5+3=7", "9+5-3=11", "2*3*4=24", "((2))=2", "(2)*(3)=(6)", "9-2*4=1", "2*4-9<0", "at=4", "mine=4", "late=4",
            "left=0", "right=0", "bored=0", "at+mine*late-left-right-bored=20", "(at)=(mine)", "1=1*1", "4=2+2", "5>2*2"};
        for (String truth : hold) due(truth, holds(truth), 1);
        faulty("rule:1+=1 do to;", 2, 7);
        faulty("rule:+1=1 do to;", 2, 5);
        faulty("rule:-1=1 do to;", 2, 5);
        faulty("rule:1-*1=1 do to;", 2, 7);
        faulty("rule:1**1=1 do to;", 2, 7);
        faulty("rule:()=1 do to;", 2, 6);
        faulty("rule:(1=1 do to;", 2, 7);
        faulty("rule:1=(1 do to;", 2, 10);
        faulty("rule:1)=1 do to;", 2, 6);
        faulty("rule:1=1) do to;", 2, 8);
        faulty("rule:(1=1) do to;", 2, 7);
        faulty("rule:(1]=1 do to;", 2, 7);
        faulty("rule:[1=1) do to;", 2, 9);
        faulty("rule:([1=1]) do to;", 2, 6);
        faulty("rule:1 1=1 do to;", 2, 7);
        faulty("rule:at mine=1 do to;", 2, 8);
        faulty("rule:2(3)=6 do to;", 2, 6);
        faulty("rule:(1 and 1)=1 do to;", 2, 8);
        faulty("rule:here=1 do to;", 2, 5);
        faulty("rule:stay=0 do to;", 2, 5);
    }

    private static void within() {
        says("At most six of not [ ( within one another.");
        good("rule:" + times("not ", 6) + "1=1 do to;", 1);
        good("rule:" + times("[", 6) + "1=1" + times("]", 6) + " do to;", 1);
        good("rule:" + times("(", 6) + "1" + times(")", 6) + "=" + times("(", 6) + "1" + times(")", 6) + " do to;", 1);
        good("rule:not[not[not(1+1)*(1)=(1)]] do to;", 1);
        good("rule:not [not [1=((1))+((1))] and not [1=((1))]] or not not not not not not 1=1 do to;", 1);
        good("rule:" + times("not ", 6) + "1=1 and " + times("not ", 6) + "1=1 or " + times("[", 6) + "1=1" + times("]", 6) + " do to;", 1);
        good("rule:" + times("[", 5) + "not 1=1 and not 1=1 or not 1=1" + times("]", 5) + " do to;", 1);
        good(times("rule:" + times("not ", 6) + "1=1 do to;", 8), 8);
        due("six of not", holds(times("not ", 6) + "1=1"), 1);
        due("five of not", holds(times("not ", 5) + "1=1"), 0);
        says("a seventh of not [ (");
        faulty("rule:" + times("not ", 7) + "1=1 do to;", 4, 29);
        faulty("rule:" + times("[", 7) + "1=1", 4, 11);
        faulty("rule:" + times("(", 7) + "1", 4, 11);
        faulty("rule:1=" + times("(", 7) + "1", 4, 13);
        faulty("rule:not[not[not((1", 4, 17);
        faulty("rule:" + times("not ", 6) + "(1", 4, 29);
        faulty("rule:" + times("not ", 6) + "[1=1", 4, 29);
        faulty("rule:" + times("[", 6) + "not 1=1", 4, 11);
        faulty("rule:" + times("[", 6) + "(1)=1", 4, 11);
        faulty("rule:" + times("not ", 6) + "1=(1", 4, 31);
        faulty("rule:" + times("(", 6) + "1+(1", 4, 13);
        faulty("rule:[[[[[1=1]]]]] and " + times("[", 7), 4, 29);
        faulty("rule:" + times("not ", 6) + "1=1 or " + times("not ", 7), 4, 60);
    }

    private static void doings() {
        says("stay 0, to 1, fro 2, takel 3, taker 4, putl 5, putr 6, reachl 7, reachr 8.");
        for (int d = 0; d < 9; d++) due("do " + doing(d), told("person 1;rule:1=1 do " + doing(d) + ";").would(0, 0), d);
        for (String word : new String[] {"take", "put", "reach", "reachlr", "s", "tofro", "left", "late", "do", "there"}) {
            faulty("rule:1=1 do " + word + ";", 2, 12);
        }
        faulty("rule:1=1 do 1;", 2, 12);
    }

    private static void deep() {
        says("deep: 2 to 9 CELLS on either side, 0, 1 .. from the frame on");
        for (int deep = 2; deep <= 9; deep++) {
            LateMirror x = told("deep " + deep + ";person 0 late 0;person " + (deep - 1) + " late 0;");
            due("count(0)", x.count(0), deep);
            due("0 is at the frame", x.can(0, 7), 1);
            due("none nearer", x.can(0, 1), 0);
            due("one farther", x.can(0, 2), 1);
            due("the last is not at the frame", x.can(1, 7), 0);
            due("none farther", x.can(1, 2), 0);
            due("one nearer", x.can(1, 1), 1);
            x.step(2 + 9 * 2);
            due("none farther there", x.copy(1, 5), 0);
            due("one farther there", x.copy(0, 0), 1);
            faulty("deep " + deep + ";person " + deep + ";", 3, 14);
            faulty("deep " + deep + ";thing " + deep + ";", 3, 13);
            faulty("deep " + deep + ";thing " + deep + " there;", 3, 13);
        }
        for (String no : new String[] {"0", "1", "10", "99", "100", "999", "001", "010"}) faulty("deep " + no + ";", 3, 5);
        good("deep 002;", 1);
        good("deep 09;", 1);
    }

    private static void deepAhead() {
        says("ahead of all people, things.");
        faulty("person 0;deep 5;", 2, 9);
        faulty("thing 0;deep 5;", 2, 8);
        faulty("thing 0 there; deep 5;", 2, 15);
        faulty("deep 3;miss 1;person 0;rule:1=1 do to;deep 3;", 2, 38);
        good("miss 1;rule:1=1 do to;deep 3;person 0;thing 0;", 5);
        says("(the end: the text's length; deep behind a person, a thing: at its first TOKEN)");
        faulty("person 0;deep", 2, 9);
        faulty("person 0;deep 99;", 2, 9);
        faulty("thing 0;deep 1234;", 2, 8);
        faulty("thing 0;deep !", 2, 8);
    }

    private static void people() {
        says("person: where it is HERE, and its COPY THERE; LATE 0 to 4 (1); numbered from 0 on, 3 at most.");
        LateMirror x = told("person 0 late 0;person 4 late 4;person 2;");
        int[] cells = {0, 4, 2};
        int[] lates = {0, 4, 1};
        for (int p = 0; p < 3; p++) {
            due("person(" + p + ", 0)", x.person(p, 0), cells[p]);
            due("copy(" + p + ", 0)", x.copy(p, 0), cells[p]);
            due("person(" + p + ", 1)", x.person(p, 1), lates[p]);
        }
        due("count(1)", x.count(1), 3);
        due("person(3, 0)", x.person(3, 0), -2);
        for (int late = 0; late <= 4; late++) due("late " + late, told("person 0 late " + late + ";").person(0, 1), late);
        faulty("person 0 late 5;", 3, 14);
        faulty("person 0 late 999;", 3, 14);
        faulty("person 5;", 3, 7);
        faulty("person 999;", 3, 7);
        faulty(times("person 0;", 4), 4, 27);
        good(times("person 0;", 3), 3);
    }

    private static void things() {
        says("thing: where it lies, HERE or THERE; numbered from 0 on, 4 at most.");
        LateMirror x = told("thing 4;thing 0 there;thing 0;thing 4 there;");
        int[] places = {4, 10, 0, 14};
        for (int t = 0; t < 4; t++) due("thing(" + t + ")", x.thing(t), places[t]);
        due("thing(4)", x.thing(4), -2);
        due("count(2)", x.count(2), 4);
        faulty("thing 5;", 3, 6);
        faulty("thing 5 there;", 3, 6);
        faulty(times("thing 0;", 5), 4, 32);
        good(times("thing 0;", 4), 4);
    }

    private static void rules() {
        says("rule: for the COPY of a PERSON told ahead, or for all; 8 at most, in order.");
        LateMirror x = told("rule:late=0 do to;person 3 late 0;rule 0:late<2 do fro;person 3 late 0;rule 1:late<3 do taker;rule:1=1 do reachl;");
        int[][] would = {{1, 2, 7, 7, 7, 7, 7, 7, 7}, {1, 4, 4, 7, 7, 7, 7, 7, 7}};
        for (int p = 0; p < 2; p++) {
            for (int d = 0; d < 9; d++) due("would(" + p + ", " + d + ")", x.would(p, d), would[p][d]);
        }
        StringBuilder eight = new StringBuilder("deep 9;person 8 late 0;");
        for (int r = 0; r < 8; r++) eight.append("rule 0:late=").append(r).append(" do ").append(doing(8 - r)).append(";");
        LateMirror y = told(eight.toString());
        due("count(3)", y.count(3), 8);
        int[] other = {0, 1, 2, 4, 3, 6, 5, 8, 7};
        for (int d = 0; d < 9; d++) due("would(0, " + d + ")", y.would(0, d), other[d] == 8 ? 8 : 8 - other[d]);
        faulty(eight + "rule", 4, eight.length());
        faulty("rule 0:1=1 do to;", 3, 5);
        faulty("person 0;person 0;rule 2:1=1 do to;", 3, 23);
        faulty("rule 0:1=1 do to;person 0;", 3, 5);
        good("person 0;rule 0:1=1 do to;", 2);
        good("person 0;person 0;person 0;rule 2:1=1 do to;", 4);
        faulty("person 0;person 0;person 0;rule 3:1=1 do to;", 3, 32);
    }

    private static void miss() {
        says("miss: 0 to 9 tenths (0).");
        due("without one", told("person 0;").count(4), 0);
        for (int miss = 0; miss <= 9; miss++) {
            LateMirror x = told("person 1 late 0;miss " + miss + ";");
            due("count(4)", x.count(4), miss);
            fill(x, 0, 1);
            due("it misses", x.odds(0, 0, 1), miss);
            due("it does not", x.odds(0, 0, 0), 10 - miss);
        }
        faulty("miss 10;", 3, 5);
        faulty("miss 999;", 3, 5);
    }

    private static void laterOnes() {
        says("Later ones of deep, miss count in place of earlier ones.");
        LateMirror x = told("deep 9;miss 9;deep 3;person 2;miss 4;");
        due("count(0)", x.count(0), 3);
        due("count(4)", x.count(4), 4);
        due("count(8)", x.count(8), 5);
        faulty("deep 9;deep 3;person 3;", 3, 21);
        good("deep 3;deep 9;person 8;", 3);
        due("miss 0 again", told("miss 5;miss 0;").count(4), 0);
    }

    private static void tokens() {
        says("TOKENS, as long as they go on, between them blanks (10, 32): words (small letters), N (1 to 3 digits), the signs ; : + - * ( ) [ ] = < >.");
        good("deep2;person1late4;person 0late 0;thing1there;rule0:not1=2and[at<mine]or(1)=1do to;", 5);
        faulty("deepperson 2;", 2, 0);
        faulty("deep 2;personlate 1;", 2, 7);
        faulty("rule:1=1 doto;", 2, 9);
        faulty("rule:1=1 ando=1 do to;", 2, 9);
        faulty("rule:1=1 do to1;", 2, 14);
        faulty("de ep 2;", 2, 0);
        good("thing 4 there;", 1);
        faulty("thing 4 the re;", 2, 8);
        faulty("miss 1 2;", 2, 7);
        faulty("deep 2;miss 12;", 3, 12);
        faulty("a;", 2, 0);
        faulty("z;", 2, 0);
        for (String sign : new String[] {":", "+", "-", "*", "(", ")", "[", "]", "=", "<", ">"}) faulty(sign, 2, 0);
    }

    private static void numbersAndBlanks() {
        says("between them blanks (10, 32)");
        good("\n\n  deep \n 2\n;\n \n", 1);
        for (int c = 0; c < 256; c++) {
            boolean token = c >= 'a' && c <= 'z' || c >= '0' && c <= '9' || ";:+-*()[]=<>".indexOf(c) >= 0;
            boolean blank = c == 10 || c == 32;
            LateMirror x = new LateMirror();
            due("arcade() of byte " + c, tell(x, "miss 1;" + (char) c), blank ? 1 : token ? -32 : -31);
            due("fault(1) of byte " + c, x.fault(1), blank ? -1 : 7);
        }
        says("N (1 to 3 digits)");
        good("miss 1;miss 01;miss 001;", 3);
        good("rule:999=0 do to;", 1);
        faulty("miss 0001;", 1, 5);
        faulty("rule:1000=0 do to;", 1, 5);
    }

    private static void firstFault() {
        says("FAULTS, the first along the text");
        faulty("miss 10;foo!1234", 3, 5);
        faulty("foo miss 10 !", 2, 0);
        faulty("person 0;person 0;person 0;person 9!", 4, 27);
        faulty("miss 1 !;miss 10;", 1, 7);
        faulty("rule 0:1=1 do nowhere;", 3, 5);
        faulty("deep 2;person 2 late 5;", 3, 14);
        faulty("rule:1=!", 1, 7);
        faulty("rule:1!=1", 1, 6);
    }

    private static void leastKind() {
        says("of one TOKEN the least kind");
        // Four digits where a number can't be at all, and where its bounds would be broken.
        faulty("1234;", 1, 0);
        faulty("deep 2;1234", 1, 7);
        faulty("deep 9999;", 1, 5);
        faulty("person 0 1234;", 1, 9);
        faulty("rule 1234:", 1, 5);
        // A number out of bounds where no number can stand.
        faulty("miss 1 99;", 2, 7);
        faulty("99;", 2, 0);
        // A seventh that can't stand there either.
        faulty("rule:((((((1(", 2, 12);
        faulty("rule:(((((([", 2, 11);
        faulty("rule:((((((not", 2, 11);
        faulty("rule:[[[[[[1=1[", 2, 14);
        faulty("rule:" + times("not ", 6) + "1=not", 2, 31);
        // A fourth person that can't stand there.
        faulty(times("person 0;", 3) + "miss person", 2, 32);
        faulty(times("thing 0;", 4) + "thing 0", 4, 32);
    }

    private static void kindOne() {
        says("1 no TOKEN begins so (4 digits and more: at their first).");
        faulty("!", 1, 0);
        faulty("Miss 1;", 1, 0);
        faulty("mISS 1;", 2, 0);
        faulty("miss\t1;", 1, 4);
        faulty("miss\r1;", 1, 4);
        faulty("miss 1,", 1, 6);
        faulty("miss 1000;", 1, 5);
        faulty("miss 123456789012345;", 1, 5);
        faulty("miss 0000;", 1, 5);
        faulty("miss 999;", 3, 5);
        faulty("miss 12 34;", 3, 5);
        faulty("miss 1a;", 2, 6);
        faulty("miss 1" + (char) 0, 1, 6);
        faulty("miss 1" + (char) 255, 1, 6);
    }

    private static void kindTwo() {
        says("2 it can't stand there");
        faulty("here;", 2, 0);
        faulty("5;", 2, 0);
        faulty("deep deep;", 2, 5);
        faulty("deep ;", 2, 5);
        faulty("deep 2 person 1;", 2, 7);
        faulty("miss :", 2, 5);
        faulty("late 1;", 2, 0);
        faulty("there;", 2, 0);
    }

    private static void theEnd() {
        says("the end: the text's length");
        String whole = "deep 2;person 1 late 0;thing 1 there;rule 0:not[(1)=1 and 2<3] do reachr;miss 9;";
        // Cut behind each byte: good are only those that end with a whole line.
        for (int n = 0; n <= whole.length(); n++) {
            String cut = whole.substring(0, n);
            LateMirror x = new LateMirror();
            feedAll(x, whole);
            int lines = cut.replaceAll("[^;]", "").length();
            boolean all = cut.isEmpty() || cut.endsWith(";");
            int answer = x.arcade(n);
            due("arcade(" + n + ")", answer, all ? lines : -32);
            // A word that is cut can't stand there, if it is none; else, and behind all others, the end can't.
            String word = cut.replaceAll(".*[^a-z]", "");
            boolean part = !word.isEmpty() && !(" deep person late thing there rule not and do reachr miss ").contains(" " + word + " ");
            if (!all) due("fault(1) of " + n + " bytes", x.fault(1), part ? n - word.length() : n);
        }
        faulty("deep 2   ", 2, 9);
        faulty("deep\n\n", 2, 6);
    }

    private static void kindThree() {
        says("3 an N out of its bounds (a CELL that isn't there; a PERSON not told ahead).");
        faulty("deep 2;person 2;", 3, 14);
        faulty("deep 2;thing 2;", 3, 13);
        faulty("deep 2;thing 2 there;", 3, 13);
        faulty("person 0;rule 1:", 3, 14);
        faulty("rule 0 0", 3, 5);
        good("rule:0=999 do to;", 1);
    }

    private static void kindFour() {
        says("4 the first TOKEN of a 4th person, a 5th thing, a 9th rule; a seventh of not [ (.");
        String full = times("person 0;", 3) + times("thing 0;", 4) + times("rule:1=1 do to;", 8);
        good(full, 15);
        due("miss goes on", tell(new LateMirror(), full + "miss 1;miss 2;miss 3;"), 18);
        faulty(full + "person 0;", 4, full.length());
        faulty(full + "  person", 4, full.length() + 2);
        faulty(full + "thing 9;", 4, full.length());
        faulty(full + "thing!", 4, full.length());
        faulty(full + "rule 9 nothing", 4, full.length());
        faulty(full + "deep 5;", 2, full.length());
    }
}
