/** Each promise of the document by itself: ordinary inputs, the edges it names, wrong inputs. */
public final class PromisesTest {
    private static int wrong = 0;
    private static int asked = 0;
    private static int promise = 0;

    private static void due(String call, long got, long want) {
        asked++;
        if (got != want) {
            wrong++;
            System.out.println("promise " + promise + ": " + call + " answered " + got + ", due is " + want);
        }
    }

    private static int[] five(String text, int from) {
        int[] v = new int[5];
        for (int k = 0; k < 20; k++) {
            int c = from + k < text.length() ? text.charAt(from + k) : 32;
            v[k / 4] = v[k / 4] << 8 | c;
        }
        return v;
    }

    private static int tell(LateMirror x, String text) {
        for (int i = 0; i < text.length(); i += 20) {
            int[] v = five(text, i);
            x.feed(v[0], v[1], v[2], v[3], v[4]);
        }
        return x.arcade(text.length());
    }

    private static LateMirror told(String text) {
        LateMirror x = new LateMirror();
        int lines = tell(x, text);
        if (lines < 0) due("a good text: " + text, lines, 0);
        return x;
    }

    private static void fill(LateMirror x, int tray, long... values) {
        x.numbers(tray, 3, values.length);
        for (int i = 0; i < values.length; i++) x.write(tray, i, values[i]);
    }

    private static void faulty(String text, int fault, int place) {
        LateMirror x = new LateMirror();
        due("arcade() of " + text, tell(x, text), -30 - fault);
        due("fault(0) of " + text, x.fault(0), fault);
        due("fault(1) of " + text, x.fault(1), place);
    }

    private static void cutAt(String text, int n, int fault, int place) {
        LateMirror x = new LateMirror();
        for (int i = 0; i < text.length(); i += 20) {
            int[] v = five(text, i);
            x.feed(v[0], v[1], v[2], v[3], v[4]);
        }
        due("arcade(" + n + ") of " + text.trim(), x.arcade(n), -30 - fault);
        due("fault(1) of " + text.trim(), x.fault(1), place);
    }

    public static void main(String[] args) {
        newObject();
        feed();
        arcade();
        fault();
        person();
        copy();
        thing();
        can();
        would();
        step();
        rules();
        passing();
        undo();
        judge();
        perform();
        day();
        fails();
        round();
        soonest();
        states();
        reach();
        fits();
        smallest();
        sure();
        telling();
        meant();
        maybe();
        odds();
        win();
        wins();
        lends();
        owes();
        balance();
        clear();
        payments();
        numbers();
        write();
        lists();
        image();
        restore();
        count();
        System.out.println(asked + " answers, " + wrong + " wrong");
        if (wrong != 0) System.exit(1);
    }

    private static void newObject() {
        promise = 1;
        LateMirror x = new LateMirror();
        due("NONE", LateMirror.NONE, -1);
        due("SPENT", LateMirror.SPENT, -1000);
        int[] counts = {5, 0, 0, 0, 0, 0, 0, 0, 0};
        for (int i = 0; i < 9; i++) due("count(" + i + ")", x.count(i), counts[i]);
        due("fault(0)", x.fault(0), 0);
        due("fault(1)", x.fault(1), -1);
        due("person(0, 0)", x.person(0, 0), -2);
        due("thing(0)", x.thing(0), -2);
        due("restore(0)", x.restore(0), -5);
        due("fits(0)", x.fits(0), -6);
    }

    private static void feed() {
        promise = 2;
        LateMirror x = new LateMirror();
        for (int i = 1; i <= 45; i++) due("feed " + i, x.feed(0x20202020, 0x20202020, 0x20202020, 0x20202020, 0x20202020), 20 * i);
        due("feed above 900", x.feed(0, 0, 0, 0, 0), -5);
        due("count(7)", x.count(7), 900);
        due("arcade(900)", x.arcade(900), 0);
        due("count(7)", x.count(7), 0);
        // The highest byte of each int comes first: "deep" is 64 65 65 70.
        due("feed", x.feed(0x64656570, 0x20333B20, 0x20202020, 0x20202020, 0x2020203B), 20);
        due("arcade(7)", x.arcade(7), 1);
        due("count(0)", x.count(0), 3);
        due("feed of bytes above 127", x.feed(-1, -1, -1, -1, -1), 20);
        due("arcade(1)", x.arcade(1), -31);
    }

    private static void arcade() {
        promise = 3;
        LateMirror x = new LateMirror();
        x.feed(0x20202020, 0x20202020, 0x20202020, 0x20202020, 0x20202020);
        due("arcade(-1)", x.arcade(-1), -3);
        due("arcade(21)", x.arcade(21), -3);
        due("count(7), the tape stays", x.count(7), 20);
        due("arcade(20)", x.arcade(20), 0);
        due("count(7)", x.count(7), 0);
        due("a text", tell(x, "deep 3;person 2 late 4;thing 1 there;rule 0:1=1 do to;miss 7;"), 5);
        due("count(8)", x.count(8), 5);
        x.step(1);
        due("a fault", tell(x, "deep 3"), -32);
        due("count(8), all stays", x.count(8), 5);
        due("count(5), all stays", x.count(5), 1);
        due("count(6), all stays", x.count(6), 1);
        due("two people", tell(x, "person 0;person 4;"), 2);
        due("deep is as at first", x.count(0), 5);
        due("miss is as at first", x.count(4), 0);
        x.lends(0, 1, 7);
        due("again", tell(x, "person 0 ; person 4 ;"), 2);
        due("no debts", x.owes(0, 1, false), 0);
        due("nothing can be undone", x.count(6), 0);
        due("no steps", x.count(5), 0);
        due("later ones count", tell(x, "deep 3;miss 1;deep 7;miss 2;rule:1=1 do to;deep 9;person 8;"), 7);
        due("count(0)", x.count(0), 9);
        due("count(4)", x.count(4), 2);
        due("without blanks", tell(x, "deep4;person3late0;"), 2);
        due("late 0", x.person(0, 1), 0);
        due("lines apart", tell(x, "\n\ndeep\n4\n;\n"), 1);
        due("leading zeros", tell(x, "deep 004;"), 1);
        due("arcade(0)", x.arcade(0), 0);
        due("count(0)", x.count(0), 5);
    }

    private static void fault() {
        promise = 4;
        faulty("deep 5; !", 1, 8);
        faulty("Deep 5;", 1, 0);
        faulty("deep\t5;", 1, 4);
        faulty("deep 1000;", 1, 5);
        faulty("deep 0005;", 1, 5);
        faulty("rule : 1234 = 1 do to;", 1, 7);
        faulty("foo;", 2, 0);
        faulty(";", 2, 0);
        faulty("deep 5", 2, 6);
        faulty("deep 5  ", 2, 8);
        faulty("deep", 2, 4);
        faulty("deep ;", 2, 5);
        faulty("deep 5;;", 2, 7);
        faulty("thing 0; deep 12;", 2, 9);
        faulty("person 0; deep 3;", 2, 10);
        faulty("deeps 5;", 2, 0);
        faulty("zoo;", 2, 0);
        faulty("azz 5;", 2, 0);
        faulty("aA 5;", 2, 0);
        faulty("person 0 there;", 2, 9);
        faulty("thing 0 late 1;", 2, 8);
        faulty("person 0; rule 0 1 = 1 do to;", 2, 17);
        faulty("rule : not do to;", 2, 11);
        faulty("rule : 1 do to;", 2, 9);
        faulty("rule : 1 = 1 = 1 do to;", 2, 13);
        faulty("rule : (1 = 1) do to;", 2, 10);
        faulty("rule : [1] = 1 do to;", 2, 9);
        faulty("rule : [1 = 1] = 1 do to;", 2, 15);
        faulty("rule : [1 = 1] + 1 do to;", 2, 15);
        faulty("rule : [1 = 1)] do to;", 2, 13);
        faulty("rule : 1 = 1] do to;", 2, 12);
        faulty("rule : 1 = 1) do to;", 2, 12);
        faulty("rule : 1 = (1 do to;", 2, 14);
        faulty("rule : 1 = not 1 do to;", 2, 11);
        faulty("rule : 1 = [1] do to;", 2, 11);
        faulty("rule : 1 + = 1 do to;", 2, 11);
        faulty("rule : - 1 = 1 do to;", 2, 7);
        faulty("rule : 1 = 1 and do to;", 2, 17);
        faulty("rule : 1 = 1 or or;", 2, 16);
        faulty("rule : 1 = 1 do 3;", 2, 16);
        faulty("rule : 1 = 1 do to", 2, 18);
        faulty("rule : 1 = 1 do", 2, 15);
        faulty("rule : 1 = here do to;", 2, 11);
        faulty("deep 1;", 3, 5);
        faulty("deep 10;", 3, 5);
        faulty("person 5;", 3, 7);
        faulty("deep 2; person 2;", 3, 15);
        faulty("person 0 late 5;", 3, 14);
        faulty("thing 5 there;", 3, 6);
        faulty("miss 10;", 3, 5);
        faulty("rule 0: 1 = 1 do to;", 3, 5);
        faulty("person 0; rule 1: 1 = 1 do to;", 3, 15);
        faulty("person 0;person 0;person 0;person 9;", 4, 27);
        faulty("thing 0;thing 0;thing 0;thing 0;thing", 4, 32);
        StringBuilder rules = new StringBuilder();
        for (int i = 0; i < 8; i++) rules.append("rule:1=1 do to;");
        faulty(rules + "rule x", 4, 120);
        faulty("rule : [[[[[[[1 = 1 do to;", 4, 13);
        faulty("rule : ((((((( 1 = 1 do to;", 4, 13);
        faulty("rule : not [ not [ not [ not 1 = 1 do", 4, 25);
        faulty("rule : [[[ not 1 = ((( 1", 4, 21);
        cutAt("deep 5;missing", 11, 2, 11);
        cutAt("deep 55;", 6, 2, 6);
        cutAt("deep 5;miss 10;", 13, 2, 13);
        cutAt("rule : 1 = 1 do reachr;", 21, 2, 16);
        String blanks = " ".repeat(900);
        cutAt(blanks.substring(4) + "deep", 900, 2, 900);
        cutAt(blanks.substring(6) + "deep 5", 900, 2, 900);
        LateMirror x = told("rule : [[[[[[1 = 1]]]]]] and [[[[[[1 = 1]]]]]] do to;rule : not not not not not not 1 = 1 or not 1 = 1 do to;"
            + "rule : ((((((1)))))) = ((((((1)))))) do to;rule : not 1 = (((((1))))) and not not not not not (1) + (1) = 1 do to;");
        due("six within one another", x.count(3), 4);
        due("a 1st fault", tell(x, "miss"), -32);
        due("fault(0)", x.fault(0), 2);
        due("arcade(1), nothing is read", x.arcade(1), -3);
        due("fault(0) stays", x.fault(0), 2);
        due("fault(1) stays", x.fault(1), 4);
        due("fault(2)", x.fault(2), -1);
        due("fault(-1)", x.fault(-1), -1);
        tell(x, "miss 1;");
        due("fault(0)", x.fault(0), 0);
        due("fault(1)", x.fault(1), -1);
    }

    private static void person() {
        promise = 5;
        LateMirror x = told("deep 3;person 2 late 3;person 0;thing 2;thing 0;");
        int[] first = {2, 3, -1, -1, -1, 0};
        for (int w = 0; w < 6; w++) due("person(0, " + w + ")", x.person(0, w), first[w]);
        due("late as told to nobody", x.person(1, 1), 1);
        x.step(3 + 9 * 4);
        int[] then = {2, 3, 0, -1, 3, 1};
        for (int w = 0; w < 6; w++) due("person(0, " + w + ")", x.person(0, w), then[w]);
        due("the right hand", x.person(1, 3), 1);
        x.step(2 + 9 * 1);
        due("told what it can't", x.person(0, 4), 2);
        due("it could not", x.person(0, 5), 0);
        due("it could not at the frame", x.person(1, 5), 0);
        due("person(2, 0)", x.person(2, 0), -2);
        due("person(-1, 0)", x.person(-1, 0), -2);
        due("person(0, 6)", x.person(0, 6), -2);
        due("person(0, -1)", x.person(0, -1), -2);
    }

    private static void copy() {
        promise = 6;
        LateMirror x = told("deep 3;person 2 late 0;thing 2 there;");
        int[] first = {2, 0, -1, -1, -1, 0};
        for (int w = 0; w < 6; w++) due("copy(0, " + w + ")", x.copy(0, w), first[w]);
        x.step(3);
        int[] then = {2, 0, -1, 0, 4, 1};
        for (int w = 0; w < 6; w++) due("copy(0, " + w + ")", x.copy(0, w), then[w]);
        x.step(2);
        due("what it could not", x.copy(0, 4), 2);
        due("it could not", x.copy(0, 5), 0);
        for (int i = 1; i <= 12; i++) {
            x.step(0);
            due("bored behind " + i, x.copy(0, 1), Math.min(9, i));
        }
        x.step(1);
        due("bored no more", x.copy(0, 1), 0);
        due("copy(1, 0)", x.copy(1, 0), -2);
        due("copy(-1, 0)", x.copy(-1, 0), -2);
        due("copy(0, 6)", x.copy(0, 6), -2);
        due("copy(0, -1)", x.copy(0, -1), -2);
    }

    private static void thing() {
        promise = 7;
        LateMirror x = told("deep 3;person 2 late 0;person 1;thing 2;thing 1 there;thing 2 there;thing 1;");
        int[] places = {2, 11, 12, 1};
        for (int t = 0; t < 4; t++) due("thing(" + t + ")", x.thing(t), places[t]);
        x.step(4 + 9 * 3);
        due("person 0's right hand", x.thing(0), 21);
        due("copy 0's left hand", x.thing(2), 30);
        due("person 1's left hand", x.thing(3), 22);
        x.step(0);
        due("copy 1's right hand", x.thing(1), 33);
        x.step(6 + 9 * 2);
        due("put", x.thing(0), 2);
        due("put there", x.thing(2), 12);
        due("thing(4)", x.thing(4), -2);
        due("thing(-1)", x.thing(-1), -2);
    }

    private static void can() {
        promise = 8;
        LateMirror x = told("deep 2;person 0;person 1;thing 1;thing 1;thing 0 there;");
        int[] atFrame = {1, 0, 1, 0, 0, 0, 0, 1, 1};
        int[] atEnd = {1, 1, 0, 1, 1, 0, 0, 0, 0};
        for (int d = 0; d < 9; d++) {
            due("can(0, " + d + ")", x.can(0, d), atFrame[d]);
            due("can(1, " + d + ")", x.can(1, d), atEnd[d]);
        }
        x.step(9 * 3);
        due("the hand holds one", x.can(1, 3), 0);
        due("the other hand", x.can(1, 4), 1);
        due("to put", x.can(1, 5), 1);
        due("nothing to put", x.can(1, 6), 0);
        due("can(2, 0)", x.can(2, 0), -2);
        due("can(-1, 0)", x.can(-1, 0), -2);
        due("can(0, 9)", x.can(0, 9), -2);
        due("can(0, -1)", x.can(0, -1), -2);
    }

    private static void would() {
        promise = 9;
        LateMirror x = told("deep 4;person 1 late 0;person 1 late 2;rule 0:mine=0 do reachl;rule 0:bored>1 do fro;");
        due("the other hand", x.would(0, 5), 6);
        due("mine is what it is then", x.would(0, 1), 7);
        due("bored once", x.would(0, 0), 0);
        due("late 2", x.would(1, 5), 0);
        x.step(9 * 7);
        due("bored twice", x.would(0, 0), 2);
        due("late 2, still", x.would(1, 5), 0);
        x.step(9 * 0);
        due("what was told two steps ago", x.would(1, 5), 8);
        due("nothing was done", x.count(5), 2);
        due("would(2, 0)", x.would(2, 0), -2);
        due("would(-1, 0)", x.would(-1, 0), -2);
        due("would(0, 9)", x.would(0, 9), -2);
        due("would(0, -1)", x.would(0, -1), -2);
    }

    private static void step() {
        promise = 10;
        LateMirror x = told("deep 3;person 0;person 0;thing 0;thing 0;");
        due("step(81)", x.step(81), -3);
        due("step(-1)", x.step(-1), -3);
        due("refused ones change nothing", x.count(5), 0);
        due("step(80)", x.step(80), 0);
        due("person(1, 4)", x.person(1, 4), 8);
        due("by numbers: the least thing for the first", x.step(3 + 9 * 4), 0);
        due("thing(0)", x.thing(0), 20);
        due("thing(1)", x.thing(1), 23);
        LateMirror nobody = new LateMirror();
        due("nobody's step", nobody.step(0), 0);
        due("nobody can be told", nobody.step(1), -3);
        LateMirror late = told("deep 9;person 4 late 4;");
        int[] told = {1, 2, 2, 0, 0, 0, 0, 0};
        int[] cells = {4, 4, 4, 4, 3, 4, 5, 5};
        for (int i = 0; i < told.length; i++) {
            late.step(told[i]);
            due("the copy behind step " + i, late.copy(0, 0), cells[i]);
        }
    }

    private static int ruledBy(String truth) {
        return told("deep 9;person 4 late 0;thing 4 there;rule : " + truth + " do fro;").would(0, 3) == 2 ? 1 : 0;
    }

    private static void rules() {
        promise = 10;
        String[] hold = {"1 = 1", "1 < 2", "2 > 1", "late = 4", "at = 4", "mine = 4", "left = 0", "right = 0", "bored = 0",
            "not 1 = 2", "[1 = 1]", "1 + 2 * 3 = 7", "(1 + 2) * 3 = 9", "10 - 3 - 2 = 5", "10 - (3 - 2) = 9",
            "1 = 1 or 1 = 2 and 1 = 2", "not 1 = 1 or 1 = 1", "not [1 = 2 and 1 = 1]", "1 = 2 or not not 2 = 2",
            "999 * 999 * 999 = 999 * 999 * 2", "0 - 999 * 999 * 2 = 0 - 999 * 999 * 3", "999*999*2-1 = 999*999*2-1",
            "999*999*2 - 1 < 999*999*2", "0 - 999*999*2 - 1 = 0 - 999*999*2", "at + at * mine = 20", "1 - 2 < 0"};
        for (String truth : hold) due(truth, ruledBy(truth), 1);
        String[] fail = {"1 = 2", "2 < 1", "1 < 1", "1 > 1", "late = 3", "not 1 = 1", "[1 = 1 or 1 = 1] and 1 = 2",
            "not not 1 = 2", "1 = 2 or 1 = 1 and 1 = 2", "not [1 = 1 or 1 = 2]", "10 - 3 - 2 = 9"};
        for (String truth : fail) due(truth, ruledBy(truth), 0);
        LateMirror x = told("deep 9;person 4 late 0;person 4 late 0;rule 1: late = 0 do to;rule: late = 0 do fro;rule 0:1=1 do reachl;");
        due("the first for it", x.would(1, 0), 1);
        due("one for all", x.would(0, 0), 2);
        due("the last for it", x.would(0, 2), 7);
        due("none for it: the late one", x.would(1, 2), 2);
        String[] doings = {"stay", "to", "fro", "takel", "taker", "putl", "putr", "reachl", "reachr"};
        for (int d = 0; d < 9; d++) due("do " + doings[d], told("person 1;rule:1=1 do " + doings[d] + ";").would(0, 0), d);
        LateMirror hands = told("deep 2;person 0 late 0;thing 0 there;rule:left=1 do putl;rule:right=1 do fro;");
        hands.step(3);
        due("right holds one", hands.would(0, 0), 2);
        hands.undo(1);
        hands.step(4);
        due("left holds one", hands.would(0, 0), 5);
    }

    private static void passing() {
        promise = 10;
        LateMirror x = told("deep 2;person 0 late 0;thing 0;");
        x.step(4);
        due("left with right: the empty hand", x.step(7), 0);
        due("right with left", x.step(8), 1);
        due("thing(0)", x.thing(0), 30);
        due("and back", x.step(8), 1);
        due("thing(0)", x.thing(0), 21);
        x.step(2);
        due("not at the frame", x.step(8), 0);
        LateMirror both = told("deep 2;person 0 late 0;thing 0;thing 0 there;");
        both.step(3);
        due("both hold one", both.step(7), 0);
        // Two people reach, one copy answers each: copy 0 is taken by person 0, person 1 gets copy 1.
        LateMirror two = told("deep 2;person 0 late 0;person 0 late 0;thing 0;thing 0;");
        two.step(3 + 9 * 3);
        due("two pass", two.step(7 + 9 * 7), 2);
        due("the first copy for the first", two.thing(0), 31);
        due("the other one for the other", two.thing(1), 33);
        two.undo(1);
        due("one reaches", two.step(0 + 9 * 7), 1);
        due("its own copy alone reached", two.thing(1), 33);
        // Copy 0 holds one already, so person 0, who does too, passes with copy 1.
        LateMirror skip = told("deep 2;person 0 late 0;person 0 late 0;thing 0;thing 0 there;");
        skip.step(3 + 9 * 0);
        due("copy 0 took", skip.thing(1), 31);
        due("the first that can, then the one that is left", skip.step(7 + 9 * 7), 2);
        due("copy 1 got it", skip.thing(0), 33);
        due("copy 0's came to person 1", skip.thing(1), 22);
        LateMirror cant = told("deep 2;person 0 late 0;person 1 late 0;thing 0;rule 0:late=7 do stay;rule 0:late=8 do stay;rule 1:1=1 do reachr;");
        cant.step(3);
        due("a copy that can't reach", cant.step(7), 0);
    }

    private static void undo() {
        promise = 11;
        LateMirror x = told("deep 4;person 1;person 2;thing 1;");
        for (int n : new int[] {0, -1, 1, 11}) due("undo(" + n + ")", x.undo(n), -3);
        x.step(3);
        x.step(2 + 9 * 2);
        x.lends(0, 1, 5);
        x.lends(1, 0, 3);
        x.clear();
        due("cleared", x.owes(0, 1, false), 2);
        due("five calls", x.count(6), 5);
        due("undo(1)", x.undo(1), 4);
        due("debts are back", x.owes(0, 1, false), 5);
        due("undo(2)", x.undo(2), 2);
        due("no debts", x.owes(0, 1, false), 0);
        due("undo(1)", x.undo(1), 1);
        due("steps counted", x.count(5), 1);
        due("what was told last", x.person(0, 4), 3);
        due("what was done last", x.copy(0, 4), 0);
        due("late ones are as they were", x.would(0, 0), 4);
        due("undo(1)", x.undo(1), 0);
        due("told nothing", x.person(0, 4), -1);
        due("done nothing", x.copy(0, 4), -1);
        due("could nothing", x.copy(0, 5), 0);
        due("bored", x.copy(0, 1), 0);
        due("thing(0)", x.thing(0), 1);
        due("nothing was cleared", x.clear(), 0);
        due("that can't be undone", x.count(6), 0);
        for (int i = 0; i < 13; i++) x.step(0);
        due("ten at most", x.count(6), 10);
        due("undo(10)", x.undo(10), 0);
        due("eldest are forgotten", x.count(5), 3);
        due("undo(1)", x.undo(1), -3);
        fill(x, 0, 0, 0, 0);
        x.perform(0);
        x.day(5, 7);
        due("count(5)", x.count(5), 13);
        due("a day as a whole", x.undo(1), 1);
        due("count(5)", x.count(5), 6);
        due("hours as a whole", x.undo(1), 0);
        due("count(5)", x.count(5), 3);
    }

    private static void judge() {
        promise = 12;
        LateMirror x = told("deep 2;person 0 late 0;thing 0;");
        fill(x, 0, 3, 7, 1, 0, 9, 0);
        int[] answers = {4, 4, 1, 2};
        for (int w = 0; w < 4; w++) due("judge(0, " + w + ")", x.judge(0, w), answers[w]);
        due("as if done", x.count(5), 0);
        fill(x, 1, 0, -1);
        due("no doings below 0", x.judge(1, 0), 1);
        fill(x, 2);
        due("none at all", x.judge(2, 0), -1);
        due("no steps", x.judge(2, 1), 0);
        fill(x, 1, 8);
        due("all can be", x.judge(1, 0), -1);
        due("judge(3, 0)", x.judge(3, 0), -6);
        due("judge(4, 0)", x.judge(4, 0), -2);
        due("judge(-1, 0)", x.judge(-1, 0), -2);
        due("judge(3, 4)", x.judge(3, 4), -2);
        due("judge(0, -1)", x.judge(0, -1), -2);
        fill(x, 1, 4294967296L);
        due("too high for an int", x.judge(1, 0), 0);
    }

    private static void perform() {
        promise = 13;
        LateMirror x = told("deep 2;person 0 late 0;thing 0;");
        fill(x, 0, 3, 7, 1, 0, 9, 0);
        due("perform(0)", x.perform(0), 4);
        due("done", x.thing(0), 31);
        due("steps", x.count(5), 4);
        due("one call", x.count(6), 1);
        fill(x, 0, 9, 0);
        due("none can be", x.perform(0), 0);
        due("no call to undo", x.count(6), 1);
        due("perform(1)", x.perform(1), -6);
        due("perform(4)", x.perform(4), -2);
        due("perform(-1)", x.perform(-1), -2);
    }

    private static void day() {
        promise = 14;
        LateMirror x = told("deep 3;person 0 late 0;person 1;thing 0;thing 0 there;thing 1;");
        LateMirror y = told("deep 3;person 0 late 0;person 1;thing 0;thing 0 there;thing 1;");
        int seed = -77;
        int draw = seed;
        int passed = 0;
        for (int i = 0; i < 60; i++) {
            draw = 1103515245 * draw + 12345;
            int doings = (draw >>> 16) % 9;
            draw = 1103515245 * draw + 12345;
            doings += 9 * ((draw >>> 16) % 9);
            passed += y.step(doings);
        }
        due("day(-77, 60)", x.day(seed, 60), passed);
        for (int t = 0; t < 3; t++) due("thing(" + t + ")", x.thing(t), y.thing(t));
        due("person(1, 4)", x.person(1, 4), y.person(1, 4));
        due("count(5)", x.count(5), 60);
        due("day(1, 61)", x.day(1, 61), -3);
        due("day(1, 0)", x.day(1, 0), -3);
        due("day(1, -1)", x.day(1, -1), -3);
        LateMirror nobody = new LateMirror();
        due("nobody", nobody.day(1, 1), -5);
        due("nobody, no steps", nobody.day(1, 0), -3);
        due("not undone", nobody.count(6), 0);
    }

    private static void fails() {
        promise = 15;
        LateMirror x = told("deep 3;person 1;person 0 late 0;");
        fill(x, 0, 0, 5, 0, 9);
        due("the first step", x.fails(0, 0), 2);
        due("the first copy", x.fails(0, 1), 0);
        fill(x, 0, 0, 9);
        due("another copy", x.fails(0, 1), 1);
        fill(x, 0, 0, 1, 2);
        due("none", x.fails(0, 0), -1);
        due("none", x.fails(0, 1), -1);
        fill(x, 0, 0, 81, 9);
        due("none up to the first that can't be", x.fails(0, 0), -1);
        due("fails(0, 2)", x.fails(0, 2), -2);
        due("fails(0, -1)", x.fails(0, -1), -2);
        due("fails(4, 0)", x.fails(4, 0), -2);
        due("fails(1, 0)", x.fails(1, 0), -6);
    }

    private static void round() {
        promise = 16;
        LateMirror x = told("deep 4;person 1 late 0;thing 1;");
        fill(x, 0, 0);
        due("bored to the end", x.round(0, 1), 9);
        due("then always", x.round(0, 0), 1);
        fill(x, 0, 1, 2);
        due("to and fro", x.round(0, 1), 2);
        due("to and fro", x.round(0, 0), 1);
        fill(x, 0, 3, 2, 5, 1, 1);
        due("carried away", x.round(0, 0), 1);
        LateMirror two = told("deep 4;person 0;thing 0 there;rule:left=1 do putl;rule:left=0 do takel;");
        fill(two, 0, 2);
        due("every other time", two.round(0, 0), 2);
        due("behind so many", two.round(0, 1), 4);
        // Each copy carries a thing to the frame and back, which takes twice its person's cell, and 4 steps.
        String carry = "rule:left=1 and at<mine do fro;rule:left=1 do putl;rule:right=1 and at>0 do to;"
            + "rule:right=1 do putr;rule:at=0 do takel;rule:1=1 do taker;";
        LateMirror far = told("deep 9;person 8;person 7;thing 8 there;thing 7 there;" + carry);
        fill(far, 0, 0);
        due("20 and 18 meet", far.round(0, 0), 180);
        due("when all are bored and have changed their things at the frame", far.round(0, 1), 10);
        LateMirror farther = told("deep 9;person 8;person 7;person 5;thing 8 there;thing 7 there;thing 5 there;" + carry);
        fill(farther, 0, 0);
        due("20, 18 and 14 do not within 200", farther.round(0, 0), -1);
        due("20, 18 and 14 do not within 200", farther.round(0, 1), -1);
        LateMirror nobody = new LateMirror();
        fill(nobody, 0, 0, 0);
        due("nobody", nobody.round(0, 0), 1);
        due("nobody", nobody.round(0, 1), 0);
        fill(x, 0);
        due("no numbers", x.round(0, 0), -4);
        fill(x, 0, 0, 0, 0, 0, 0, 0, 0, 0, 0, 0);
        due("ten numbers", x.round(0, 0), 1);
        fill(x, 0, 0, 0, 0, 0, 0, 0, 0, 0, 0, 0, 9);
        due("eleven numbers", x.round(0, 0), -4);
        fill(x, 0, 0, 9);
        due("no doings", x.round(0, 0), -3);
        due("round(1, 0)", x.round(1, 0), -6);
        due("round(4, 0)", x.round(4, 0), -2);
        due("round(1, 2)", x.round(1, 2), -2);
        due("round(1, -1)", x.round(1, -1), -2);
        due("nothing was done", x.count(5), 0);
    }

    private static void soonest() {
        promise = 17;
        LateMirror x = told("deep 4;person 1;thing 1;thing 3;thing 0 there;");
        due("it is there", x.soonest(0, 0, 1, 0), 0);
        due("it is there", x.soonest(0, 0, 1, 10), -1);
        due("into the right hand", x.soonest(0, 0, 21, 0), 1);
        due("by taker", x.soonest(0, 0, 21, 10), 4);
        due("one away", x.soonest(0, 0, 2, 0), 3);
        due("take, fro, put", x.soonest(0, 0, 2, 10), 3);
        due("take, fro, put", x.soonest(0, 0, 2, 11), 2);
        due("take, fro, put", x.soonest(0, 0, 2, 12), 5);
        due("no more", x.soonest(0, 0, 2, 13), -1);
        due("no more", x.soonest(0, 0, 2, 17), -1);
        due("too far", x.soonest(0, 1, 0, 0), -1000);
        due("too far", x.soonest(0, 1, 0, 10), -1000);
        due("passed", x.soonest(0, -1, 99, 0), 4);
        due("take, to, put", x.soonest(0, 0, 0, 0), 3);
        due("soonest(1, 0, 1, 0)", x.soonest(1, 0, 1, 0), -2);
        due("soonest(-1, 0, 1, 0)", x.soonest(-1, 0, 1, 0), -2);
        due("soonest(0, 3, 1, 0)", x.soonest(0, 3, 1, 0), -2);
        due("soonest(0, -2, 1, 0)", x.soonest(0, -2, 1, 0), -2);
        for (int what : new int[] {-1, 1, 9, 18}) due("what " + what, x.soonest(0, 0, 1, what), -2);
        for (int place : new int[] {-1, 4, 9, 14, 19, 22, 29, 32, 36, 100}) due("place " + place, x.soonest(0, 0, place, 0), -3);
        due("the person first", x.soonest(1, 0, 99, 0), -2);
        due("nothing was done", x.count(5), 0);
        LateMirror holding = told("deep 2;person 0 late 0;thing 0;");
        holding.step(3);
        due("in one step", holding.soonest(0, -1, 0, 0), 1);
        due("by reachl", holding.soonest(0, -1, 0, 10), 7);
        holding.step(7);
        due("passing that was before does not count", holding.soonest(0, -1, 0, 0), 1);
        LateMirror waits = told("deep 2;person 0 late 2;thing 0;");
        waits.step(3);
        int[] waiting = {7, 0, 7, -1};
        due("the copy comes late", waits.soonest(0, -1, 0, 0), 3);
        for (int k = 0; k < 4; k++) due("doing " + k, waits.soonest(0, -1, 0, 10 + k), waiting[k]);
        due("the left hand", waits.soonest(0, 0, 20, 0), 0);
        due("the copy's left hand: putl, reachr, taker, reachr", waits.soonest(0, 0, 30, 0), 4);
        due("reachr while the hand is empty", waits.soonest(0, 0, 30, 11), 8);
        due("too far", waits.soonest(0, 0, 10, 0), -1000);
        due("the copy's right hand", waits.soonest(0, 0, 31, 0), 3);
        due("what the copy lays down", told("deep 2;person 0 late 0;thing 1 there;").soonest(0, 0, 10, 0), 4);
        LateMirror empty = told("person 0;");
        due("nothing to pass", empty.soonest(0, -1, 0, 0), -1000);
    }

    private static void states() {
        promise = 18;
        LateMirror x = told("deep 2;person 0;person 1 late 4;");
        int[] all = {1, 9, 81, 729, 6561};
        for (int n = 0; n <= 4; n++) due("states(1, " + n + ")", x.states(1, n), all[n]);
        due("states(0, 5)", x.states(0, 5), -3);
        due("states(0, -1)", x.states(0, -1), -3);
        due("states(2, 9)", x.states(2, 9), -2);
        due("states(-1, 0)", x.states(-1, 0), -2);
    }

    private static void reach() {
        promise = 19;
        LateMirror x = told("deep 9;person 4 late 0;person 4 late 2;person 0 late 0;rule 2:mine=2 do fro;");
        int[] soon = {1 << 4, 7 << 3, 31 << 2, 127 << 1, 511};
        int[] late = {1 << 4, 1 << 4, 1 << 4, 7 << 3, 31 << 2};
        for (int n = 0; n <= 4; n++) {
            due("reach(0, " + n + ")", x.reach(0, n), soon[n]);
            due("reach(1, " + n + ")", x.reach(1, n), late[n]);
        }
        due("by a rule", x.reach(2, 2), 7);
        due("by a rule for stay", told("person 0 late 0;rule:late=0 do fro;rule:1=1 do stay;").reach(0, 3), 15);
        x.step(9 * 2);
        due("what was told ahead", x.reach(1, 2), 1 << 5);
        due("reach(0, 5)", x.reach(0, 5), -3);
        due("reach(0, -1)", x.reach(0, -1), -3);
        due("reach(3, 5)", x.reach(3, 5), -2);
        due("reach(-1, 0)", x.reach(-1, 0), -2);
    }

    private static void fits() {
        promise = 20;
        LateMirror x = new LateMirror();
        fill(x, 0, 0);
        due("all fit", x.fits(0), 5 * 256);
        // takel is done as taker at once.
        fill(x, 0, 9 * 3 + 4);
        due("not late, taker not left out", x.fits(0), 128);
        fill(x, 0, 9 * 3 + 3);
        due("the wrong hand", x.fits(0), 0);
        fill(x, 0, 9 * 3);
        due("left out, or late", x.fits(0), 128 + 4 * 256);
        fill(x, 0, 9 * 3 + 4, 9 * 3);
        due("now and then", x.fits(0), 0);
        fill(x, 0, 0, 81);
        due("81", x.fits(0), -3);
        fill(x, 0, 80, -1);
        due("-1", x.fits(0), -3);
        fill(x, 0);
        due("none", x.fits(0), -4);
        x.numbers(0, 0, 30);
        due("thirty", x.fits(0), 1280);
        x.numbers(0, 0, 31);
        due("thirty-one", x.fits(0), -4);
        due("fits(1)", x.fits(1), -6);
        due("fits(4)", x.fits(4), -2);
        due("fits(-1)", x.fits(-1), -2);
    }

    private static void smallest() {
        promise = 21;
        LateMirror x = new LateMirror();
        fill(x, 0, 9 * 3, 9 * 1, 9 * 0 + 1);
        due("late 1 with taker left out", x.smallest(0, 0), 1);
        due("its set", x.smallest(0, 1), 1 << 4);
        fill(x, 0, 9 * 3);
        due("fewest left out first", x.smallest(0, 0), 1);
        due("nothing", x.smallest(0, 1), 0);
        fill(x, 0, 9 * 3, 9 * 3, 9 * 3, 9 * 3, 9 * 3);
        due("then the least late", x.smallest(0, 0), 0);
        due("taker", x.smallest(0, 1), 16);
        fill(x, 0, 1);
        due("none fits", x.smallest(0, 0), -1);
        due("none fits", x.smallest(0, 1), -1);
        due("smallest(0, 2)", x.smallest(0, 2), -2);
        due("smallest(1, 2)", x.smallest(1, 2), -2);
        due("smallest(0, -1)", x.smallest(0, -1), -2);
        due("smallest(4, 0)", x.smallest(4, 0), -2);
        due("smallest(1, 0)", x.smallest(1, 0), -6);
        fill(x, 0);
        due("none", x.smallest(0, 0), -4);
        fill(x, 0, 81);
        due("81", x.smallest(0, 0), -3);
    }

    private static void sure() {
        promise = 22;
        LateMirror x = new LateMirror();
        fill(x, 0, 9 * 3, 9 * 3, 9 * 3, 9 * 3, 9 * 3);
        due("taker in all", x.sure(0), 16);
        fill(x, 0, 9 * 3, 9 * 3, 9 * 3, 9 * 3);
        due("not with late 4", x.sure(0), 0);
        fill(x, 0, 1);
        due("none fits", x.sure(0), -1);
        fill(x, 0);
        due("none", x.sure(0), -4);
        fill(x, 0, -5);
        due("-5", x.sure(0), -3);
        due("sure(1)", x.sure(1), -6);
        due("sure(4)", x.sure(4), -2);
    }

    private static void telling() {
        promise = 23;
        LateMirror x = new LateMirror();
        fill(x, 0, 0);
        // By to: late ones part, each half of the sets; those that leave it out stay together, 5 times 128.
        due("a doing", x.telling(0, 0), 1);
        due("left at worst", x.telling(0, 1), 640);
        // All of one lateness, to is known to be done: then only others tell.
        fill(x, 0, 10);
        due("128 fit", x.fits(0), 128);
        due("the least other one", x.telling(0, 0), 2);
        due("half of them", x.telling(0, 1), 64);
        // All laws that fit leave out all, so no doing tells and the least one is as good as any.
        fill(x, 0, 9, 18, 27, 36, 45, 54, 63, 72, 0, 0, 0, 0);
        due("five fit", x.fits(0), 5);
        due("stay", x.telling(0, 0), 0);
        due("all are left", x.telling(0, 1), 5);
        fill(x, 0, 10, 20, 9 * 3 + 4, 9 * 4 + 3, 9 * 5 + 6, 9 * 6 + 5, 9 * 7 + 8, 9 * 8 + 7);
        due("one fits", x.fits(0), 1);
        due("one tells nothing", x.telling(0, 0), -1);
        due("one tells nothing", x.telling(0, 1), -1);
        fill(x, 0, 1);
        due("none fits", x.telling(0, 0), -1);
        due("telling(0, 2)", x.telling(0, 2), -2);
        due("telling(0, -1)", x.telling(0, -1), -2);
        due("telling(-1, 0)", x.telling(-1, 0), -2);
        due("telling(1, 0)", x.telling(1, 0), -6);
        fill(x, 0);
        due("none", x.telling(0, 0), -4);
        fill(x, 0, 100);
        due("100", x.telling(0, 0), -3);
    }

    private static void meant() {
        promise = 24;
        LateMirror x = told("deep 3;person 1 late 0;person 1;");
        fill(x, 0, 0);
        due("how many", x.meant(0, 0, -1), 1);
        due("to", x.meant(0, 0, 0), 1);
        due("not so many", x.meant(0, 0, 1), -1);
        due("not so many", x.meant(0, 0, -2), -1);
        fill(x, 0, 0, -1, 2);
        due("how many by one not seen", x.meant(0, 0, -1), 1);
        due("to, fro, fro", x.meant(0, 0, 0), 81 + 2 * 9 + 2);
        fill(x, 0, -1, -1, -1, -1, -1);
        due("nothing was seen", x.meant(0, 0, -1), 59049);
        due("the last row", x.meant(0, 0, 59048), 59048);
        due("not so many", x.meant(0, 0, 59049), -1);
        fill(x, 0, 2, 0);
        due("can't be", x.meant(0, 0, -1), 0);
        due("can't be", x.meant(0, 0, 0), -1);
        fill(x, 0, 1, 2);
        due("late 1", x.meant(1, 0, -1), 9);
        due("fro, whatever", x.meant(1, 0, 8), 2 * 9 + 8);
        fill(x, 0, 3);
        due("no cell", x.meant(0, 0, -1), -3);
        fill(x, 0, -2);
        due("no cell", x.meant(0, 0, -1), -3);
        fill(x, 0);
        due("none", x.meant(0, 0, -1), -4);
        fill(x, 0, 0, 0, 0, 0, 0, 0);
        due("six", x.meant(0, 0, -1), -4);
        due("meant(2, 1, 0)", x.meant(2, 1, 0), -2);
        due("meant(-1, 0, 0)", x.meant(-1, 0, 0), -2);
        due("meant(0, 4, 0)", x.meant(0, 4, 0), -2);
        due("meant(0, 1, 0)", x.meant(0, 1, 0), -6);
        due("nothing was done", x.count(5), 0);
    }

    private static void maybe() {
        promise = 25;
        LateMirror x = told("deep 3;person 1 late 0;");
        fill(x, 0, 0, 0, -1);
        due("to", x.maybe(0, 0, 0), 2);
        due("all but fro", x.maybe(0, 0, 1), 511 - 4);
        due("all", x.maybe(0, 0, 2), 511);
        due("no place", x.maybe(0, 0, 3), -3);
        due("no place", x.maybe(0, 0, -1), -3);
        fill(x, 0, 2, 0);
        due("no row", x.maybe(0, 0, 0), 0);
        fill(x, 0, 3);
        due("no cell", x.maybe(0, 0, 0), -3);
        fill(x, 0);
        due("none", x.maybe(0, 0, 0), -4);
        due("maybe(0, 1, 0)", x.maybe(0, 1, 0), -6);
        due("maybe(0, 4, 9)", x.maybe(0, 4, 9), -2);
        due("maybe(1, 1, 9)", x.maybe(1, 1, 9), -2);
    }

    private static void odds() {
        promise = 26;
        LateMirror x = told("deep 3;miss 2;person 1 late 0;person 1;rule:1=1 do fro;");
        fill(x, 0, 1, 1);
        due("8 of 10 twice, and the frame", x.odds(0, 0, 0), 96);
        due("missed twice", x.odds(0, 0, 1), 4);
        due("rules are no matter", x.odds(0, 0, 2), 0);
        due("another one stays", x.odds(1, 0, 1), 100);
        fill(x, 0, 2, 2, 2, 2, 2, 2, 2, 2);
        due("eight", x.odds(0, 0, 1), 256);
        due("eight", x.odds(0, 0, 2), 100000000 - 256);
        x.step(9 * 2);
        fill(x, 0, 0);
        due("told ahead", x.odds(1, 0, 2), 10);
        due("told ahead", x.odds(1, 0, 1), 0);
        x.undo(1);
        x.step(9 * 1);
        due("told ahead, from where the rule put it", x.odds(1, 0, 1), 8);
        due("odds(0, 0, 3)", x.odds(0, 0, 3), -3);
        due("odds(0, 0, -1)", x.odds(0, 0, -1), -3);
        fill(x, 0, 81);
        due("no doings", x.odds(0, 0, 0), -3);
        fill(x, 0);
        due("none", x.odds(0, 0, 9), -4);
        fill(x, 0, 0, 0, 0, 0, 0, 0, 0, 0, 0);
        due("nine", x.odds(0, 0, 0), -4);
        due("odds(0, 1, 0)", x.odds(0, 1, 0), -6);
        due("odds(0, 4, 0)", x.odds(0, 4, 0), -2);
        due("odds(2, 1, 0)", x.odds(2, 1, 0), -2);
    }

    private static void win() {
        promise = 27;
        LateMirror x = new LateMirror();
        due("none left", x.win(0, 4, 3), 0);
        due("the last at once", x.win(2, 4, 0), 2);
        due("the least first number", x.win(4, 4, 0), 1);
        due("one each", x.win(5, 1, 0), 1);
        due("one each", x.win(6, 1, 0), 0);
        due("two left for two", x.win(3, 2, 0), 1);
        due("the other waits", x.win(2, 1, 1), 1);
        due("the other copies late", x.win(3, 1, 1), 0);
        due("the other waits long", x.win(4, 1, 3), 1);
        due("the other comes in time", x.win(5, 1, 3), 0);
        for (int[] no : new int[][] {{-1, 1, 0}, {61, 1, 0}, {1, 0, 0}, {1, 5, 0}, {1, 1, -1}, {1, 1, 4}}) {
            due("win(" + no[0] + ", " + no[1] + ", " + no[2] + ")", x.win(no[0], no[1], no[2]), -3);
        }
    }

    private static void wins() {
        promise = 28;
        LateMirror x = new LateMirror();
        due("wins(1, 0)", x.wins(1, 0), 30);
        // late 1, one each: 1 and 2 at once, then every second one.
        int all = 0;
        for (int n = 0; n <= 60; n++) if (x.win(n, 1, 1) > 0) all++;
        due("wins(1, 1)", x.wins(1, 1), all);
        due("that many", all, 31);
        for (int[] no : new int[][] {{0, 0}, {5, 0}, {1, -1}, {1, 4}}) {
            due("wins(" + no[0] + ", " + no[1] + ")", x.wins(no[0], no[1]), -3);
        }
    }

    private static void lends() {
        promise = 29;
        LateMirror x = told("person 0;person 1;");
        due("lends(0, 1, 999)", x.lends(0, 1, 999), 999);
        due("lends(0, 1, 1)", x.lends(0, 1, 1), 1000);
        due("lends(1, 0, 5)", x.lends(1, 0, 5), 5);
        due("each can be undone", x.count(6), 3);
        due("lends(0, 0, 1)", x.lends(0, 0, 1), -2);
        due("lends(0, 2, 0)", x.lends(0, 2, 0), -2);
        due("lends(-1, 0, 1)", x.lends(-1, 0, 1), -2);
        due("lends(0, 1, 0)", x.lends(0, 1, 0), -3);
        due("lends(0, 1, 1000)", x.lends(0, 1, 1000), -3);
        for (int i = 0; i < 99; i++) x.lends(0, 1, 999);
        due("near the end", x.owes(0, 1, false), 99901);
        due("too many", x.lends(0, 1, 99), -4);
        due("just so many", x.lends(0, 1, 98), 99999);
        due("one too many", x.lends(0, 1, 1), -4);
        due("n first", x.lends(0, 1, 1000), -3);
    }

    private static void owes() {
        promise = 30;
        LateMirror x = told("person 0;person 1;person 1;");
        x.lends(0, 2, 8);
        due("here", x.owes(0, 2, false), 8);
        due("here", x.owes(2, 0, false), 0);
        due("there", x.owes(0, 2, true), 0);
        due("there", x.owes(2, 0, true), 8);
        due("owes(1, 1)", x.owes(1, 1, false), -2);
        due("owes(0, 3)", x.owes(0, 3, false), -2);
        due("owes(-1, 0)", x.owes(-1, 0, true), -2);
    }

    private static void balance() {
        promise = 31;
        LateMirror x = told("person 0;person 1;person 1;");
        x.lends(0, 2, 8);
        x.lends(0, 1, 3);
        x.lends(1, 2, 1);
        int[] here = {-11, 2, 9};
        for (int p = 0; p < 3; p++) {
            due("balance(" + p + ")", x.balance(p, false), here[p]);
            due("balance(" + p + ", there)", x.balance(p, true), -here[p]);
        }
        due("balance(3)", x.balance(3, false), -2);
        due("balance(-1)", x.balance(-1, true), -2);
    }

    private static void clear() {
        promise = 32;
        LateMirror x = told("person 0;person 1;person 1;");
        due("nothing", x.clear(), 0);
        due("not undone", x.count(6), 0);
        x.lends(0, 2, 5);
        x.lends(2, 1, 4);
        x.lends(1, 0, 3);
        due("0 2 1", x.clear(), 9);
        due("the rest", x.owes(0, 2, false), 2);
        due("the rest", x.owes(2, 1, false), 1);
        due("the rest", x.owes(1, 0, false), 0);
        due("undone", x.undo(1), 3);
        x.lends(0, 1, 7);
        due("twos first, then there is no three", x.clear(), 6);
        due("the rest", x.owes(0, 1, false), 4);
        due("the rest", x.owes(1, 0, false), 0);
        due("the rest", x.owes(0, 2, false), 5);
        LateMirror ring = told("person 0;person 1;person 1;");
        ring.lends(0, 1, 5);
        ring.lends(1, 2, 4);
        ring.lends(2, 0, 3);
        due("0 1 2", ring.clear(), 9);
        due("the rest", ring.owes(0, 1, false), 2);
        due("the rest", ring.owes(1, 2, false), 1);
        due("the rest", ring.owes(2, 0, false), 0);
        LateMirror two = told("person 0;person 1;");
        two.lends(0, 1, 5);
        two.lends(1, 0, 9);
        due("two people", two.clear(), 10);
        due("the rest", two.owes(1, 0, false), 4);
    }

    private static void payments() {
        promise = 33;
        LateMirror x = told("person 0;person 1;person 1;");
        due("no debts", x.payments(), 0);
        x.lends(0, 1, 5);
        due("one", x.payments(), 1);
        x.lends(1, 2, 5);
        due("through one who is even", x.payments(), 1);
        x.lends(0, 2, 5);
        due("still one", x.payments(), 1);
        x.lends(1, 2, 1);
        due("two", x.payments(), 2);
        due("nothing was paid", x.owes(0, 1, false), 5);
        due("nobody", new LateMirror().payments(), 0);
    }

    private static void numbers() {
        promise = 34;
        LateMirror x = new LateMirror();
        due("numbers(3, 3, 40)", x.numbers(3, 3, 40), 0);
        due("all are 0", x.judge(3, 1), 40);
        due("numbers(0, 0, 0)", x.numbers(0, 0, 0), 0);
        due("none, but not missing", x.judge(0, 1), 0);
        x.write(3, 0, 9);
        due("numbers(3, 0, 41)", x.numbers(3, 0, 41), -3);
        due("numbers(3, 0, -1)", x.numbers(3, 0, -1), -3);
        due("the tray stays", x.judge(3, 0), 0);
        due("in place of another one", x.numbers(3, 0, 2), 0);
        due("all are 0", x.judge(3, 1), 2);
        due("numbers(4, 0, 41)", x.numbers(4, 0, 41), -2);
        due("numbers(-1, 0, 1)", x.numbers(-1, 0, 1), -2);
        due("numbers(1, 4, 41)", x.numbers(1, 4, 41), -2);
        due("numbers(1, -1, 1)", x.numbers(1, -1, 1), -2);
        due("still missing", x.judge(1, 0), -6);
    }

    private static void write() {
        promise = 35;
        LateMirror x = new LateMirror();
        long[] values = {0, -1, 127, 128, 255, 256, 32768, 65535, 2147483648L, 4294967295L, Long.MIN_VALUE, Long.MAX_VALUE};
        for (int i = 0; i < 4; i++) x.numbers(i, i, 2);
        for (long v : values) {
            due("8 bits of " + v, x.write(0, 1, v), (byte) v);
            due("16 bits of " + v, x.write(1, 1, v), (short) v);
            due("32 bits of " + v, x.write(2, 1, v), (int) v);
            due("64 bits of " + v, x.write(3, 1, v), v);
        }
        x.write(0, 1, 1);
        due("it is there", x.judge(0, 0), 1);
        due("write(0, 2, 0)", x.write(0, 2, 0), -7);
        due("write(0, -1, 0)", x.write(0, -1, 0), -7);
        due("write(4, 0, 0)", x.write(4, 0, 0), -2);
        due("write(-1, 0, 0)", x.write(-1, 0, 0), -2);
        due("write of one that is missing", new LateMirror().write(0, 99, 0), -6);
    }

    private static void lists() {
        promise = 36;
        LateMirror x = told("deep 9;person 0;thing 7;thing 8 there;thing 2;");
        fill(x, 0, 5, 5);
        due("as many as it has places", x.lists(0), 2);
        fill(x, 1, 5, 5, 5, 5);
        due("as many as there are", x.lists(1), 3);
        // They are told by how many steps can be done: with 7 and 8 first, 18 and 2 then.
        due("the 1st can be done, the 2nd can't", x.judge(1, 0), 1);
        x.write(1, 1, 0);
        due("the 4th stays", x.judge(1, 0), -1);
        fill(x, 2, 9);
        due("the 1st comes in place", x.lists(2), 1);
        due("the 1st comes in place", x.judge(2, 0), -1);
        fill(x, 3);
        due("no places", x.lists(3), 0);
        due("lists(4)", x.lists(4), -2);
        due("lists(-1)", x.lists(-1), -2);
        due("missing", new LateMirror().lists(0), -6);
    }

    private static void image() {
        promise = 37;
        LateMirror x = told("person 0;");
        due("image(0)", x.image(0), 0);
        due("image(1)", x.image(1), 0);
        due("image(2)", x.image(2), -2);
        due("image(-1)", x.image(-1), -2);
        x.step(0);
        due("image(0)", x.image(0), 0);
        due("what could be undone still can", x.count(6), 1);
        x.step(0);
        x.restore(0);
        due("the later image", x.count(5), 1);
        x.restore(1);
        due("the other image", x.count(5), 0);
    }

    private static void restore() {
        promise = 38;
        LateMirror x = told("deep 3;miss 4;person 1 late 0;person 2;thing 1;rule 0:late=2 do to;");
        x.step(3);
        x.lends(0, 1, 5);
        x.image(1);
        due("restore(0)", x.restore(0), -5);
        due("restore(2)", x.restore(2), -2);
        due("restore(-1)", x.restore(-1), -2);
        fill(x, 2, 1);
        x.step(5);
        tell(x, "deep 9;thing 8;rule:1=1 do stay;rule:1=1 do stay;");
        x.step(0);
        due("restore(1)", x.restore(1), 0);
        int[] counts = {3, 2, 1, 1, 4, 1, 0, 0, 6};
        for (int i = 0; i < 9; i++) due("count(" + i + ")", x.count(i), counts[i]);
        due("thing(0)", x.thing(0), 20);
        due("person(0, 4)", x.person(0, 4), 3);
        due("owes(0, 1)", x.owes(0, 1, false), 5);
        due("its rules", x.would(0, 2), 1);
        due("nothing can be undone", x.undo(1), -3);
        due("trays stay", x.judge(2, 1), 1);
        x.step(5);
        due("again", x.restore(1), 0);
        due("thing(0)", x.thing(0), 20);
    }

    private static void count() {
        promise = 39;
        LateMirror x = told("deep 7;miss 3;person 1;person 2;thing 1;thing 2;thing 3;rule:1=1 do to;");
        x.step(0);
        x.step(0);
        x.lends(0, 1, 1);
        x.feed(0, 0, 0, 0, 0);
        int[] counts = {7, 2, 3, 1, 3, 2, 3, 20, 8};
        for (int i = 0; i < 9; i++) due("count(" + i + ")", x.count(i), counts[i]);
        due("count(9)", x.count(9), -1);
        due("count(-1)", x.count(-1), -1);
    }
}
