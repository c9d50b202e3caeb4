/** An arcade told as a text, of people and of their copies behind a mirror, who do it left, a moment after. */
public final class LateMirror {
    /** There is none. */
    public static final int NONE = -1;
    /** Too many states were met. */
    public static final int SPENT = -1000;

    private static final int NO_SUCH = -2;
    private static final int BAD_NUMBER = -3;
    private static final int TOO_MANY = -4;
    private static final int NOT_NOW = -5;
    private static final int TRAY_MISSING = -6;
    private static final int NO_NUMBER = -7;
    private static final int FAULTY = -30;

    private static final int MOST_BYTES = 900;
    private static final int MOST_DEEP = 9;
    private static final int MOST_PEOPLE = 3;
    private static final int MOST_THINGS = 4;
    private static final int MOST_RULES = 8;
    private static final int MOST_LATE = 4;
    private static final int MOST_BORED = 9;
    private static final int MOST_UNDONE = 10;
    private static final int MOST_NUMBERS = 40;

    private static final int DOINGS = 9;
    private static final int STAY = 0;
    private static final int TO = 1;
    private static final int FRO = 2;
    private static final int TAKE = 3;
    private static final int PUT = 5;
    private static final int REACH = 7;
    private static final int[] NINES = {1, 9, 81, 729, 6561, 59049};

    private static final int THERE = 10;
    private static final int HANDS_HERE = 20;
    private static final int HANDS_THERE = 30;

    // A state is one row of ints, so that keeping it and going back to it is one copy.
    // Actors are 0 to 2 for people, 3 to 5 for their copies.
    private static final int CELL = 0;
    private static final int PLACE = CELL + 2 * MOST_PEOPLE;
    private static final int BORED = PLACE + MOST_THINGS;
    private static final int TOLD = BORED + MOST_PEOPLE;
    private static final int DID = TOLD + MOST_PEOPLE;
    private static final int COULD = DID + MOST_PEOPLE;
    private static final int DEBT = COULD + 2 * MOST_PEOPLE;
    private static final int STEPS = DEBT + MOST_PEOPLE * MOST_PEOPLE;
    private static final int ROW = STEPS + 1;

    // What a person was told is kept as digits of 4 bits, the latest lowest:
    // five, as a copy is four steps late at most; two states are alike by four of them.
    private static final int TOLD_BITS = 4;
    private static final int TOLD_DIGIT = 15;
    private static final int TOLD_KEPT = 0xFFFFF;
    private static final int TOLD_ALIKE = 0xFFFF;

    private final Reader reader;
    private final Arcade live;
    private final Stage stage;
    private final Past past;
    private final Trays trays;
    private final Seeker seeker;
    private final Guess guess;
    private final Laws laws;
    private final Game game;
    private final Image firstImage;
    private final Image secondImage;
    private final int[] now;
    private final int[] trial;

    public LateMirror() {
        reader = new Reader();
        live = new Arcade();
        stage = new Stage(live);
        past = new Past();
        trays = new Trays();
        seeker = new Seeker(stage);
        guess = new Guess(stage);
        laws = new Laws();
        game = new Game();
        firstImage = new Image();
        secondImage = new Image();
        now = new int[ROW];
        trial = new int[ROW];
    }

    // ---- the arcade

    public int feed(int a, int b, int c, int d, int e) {
        if (!reader.hasRoom()) {
            return NOT_NOW;
        }
        reader.tapeInt(a);
        reader.tapeInt(b);
        reader.tapeInt(c);
        reader.tapeInt(d);
        reader.tapeInt(e);
        return reader.taped;
    }

    public int arcade(int n) {
        if (n < 0 || n > reader.taped) {
            return BAD_NUMBER;
        }
        if (!reader.readText(n)) {
            return FAULTY - reader.fault;
        }
        live.become(reader.draft);
        live.setUp(now);
        past.forget();
        return live.lines;
    }

    public int fault(int what) {
        switch (what) {
            case 0:
                return reader.fault;
            case 1:
                return reader.place;
            default:
                return NONE;
        }
    }

    public int person(int p, int what) {
        if (!isPerson(p)) {
            return NO_SUCH;
        }
        switch (what) {
            case 0:
                return now[CELL + p];
            case 1:
                return live.late[p];
            case 2:
                return stage.thingAt(now, stage.handPlace(p, 0));
            case 3:
                return stage.thingAt(now, stage.handPlace(p, 1));
            case 4:
                return now[STEPS] == 0 ? NONE : now[TOLD + p] & TOLD_DIGIT;
            case 5:
                return now[COULD + p];
            default:
                return NO_SUCH;
        }
    }

    public int copy(int p, int what) {
        if (!isPerson(p)) {
            return NO_SUCH;
        }
        int actor = MOST_PEOPLE + p;
        switch (what) {
            case 0:
                return now[CELL + actor];
            case 1:
                return now[BORED + p];
            case 2:
                return stage.thingAt(now, stage.handPlace(actor, 0));
            case 3:
                return stage.thingAt(now, stage.handPlace(actor, 1));
            case 4:
                return now[STEPS] == 0 ? NONE : now[DID + p];
            case 5:
                return now[COULD + actor];
            default:
                return NO_SUCH;
        }
    }

    public int thing(int t) {
        return isThing(t) ? now[PLACE + t] : NO_SUCH;
    }

    public int can(int p, int doing) {
        if (!isPerson(p) || !isDoing(doing)) {
            return NO_SUCH;
        }
        return stage.isAble(now, p, doing) ? 1 : 0;
    }

    public int would(int p, int doing) {
        if (!isPerson(p) || !isDoing(doing)) {
            return NO_SUCH;
        }
        return stage.copyDoing(now, p, doing);
    }

    // ---- steps

    public int step(int doings) {
        if (!stage.areDoings(doings)) {
            return BAD_NUMBER;
        }
        past.remember(now);
        return stage.advance(now, doings);
    }

    public int undo(int n) {
        if (n < 1 || n > MOST_UNDONE || n > past.kept) {
            return BAD_NUMBER;
        }
        past.goBack(n, now);
        return past.kept;
    }

    public int judge(int tray, int what) {
        if (!trays.isTray(tray) || what < 0 || what > 3) {
            return NO_SUCH;
        }
        if (trays.isMissing(tray)) {
            return TRAY_MISSING;
        }
        tryHours(tray);
        switch (what) {
            case 0:
                return stage.stepsDone < trays.size(tray) ? stage.stepsDone : NONE;
            case 1:
                return stage.stepsDone;
            case 2:
                return stage.thingsPassed;
            default:
                return stage.copiesFailed;
        }
    }

    public int perform(int tray) {
        if (!trays.isTray(tray)) {
            return NO_SUCH;
        }
        if (trays.isMissing(tray)) {
            return TRAY_MISSING;
        }
        tryHours(tray);
        if (stage.stepsDone > 0) {
            past.remember(now);
            copyRow(trial, now);
        }
        return stage.stepsDone;
    }

    public int day(int seed, int steps) {
        if (steps < 1 || steps > 60) {
            return BAD_NUMBER;
        }
        if (live.people == 0) {
            return NOT_NOW;
        }
        past.remember(now);
        return stage.spendDay(now, seed, steps);
    }

    public int fails(int tray, int what) {
        if (!trays.isTray(tray) || !isFirstOrSecond(what)) {
            return NO_SUCH;
        }
        if (trays.isMissing(tray)) {
            return TRAY_MISSING;
        }
        tryHours(tray);
        return what == 0 ? stage.firstFailure : stage.firstFailing;
    }

    public int round(int tray, int what) {
        if (!trays.isTray(tray) || !isFirstOrSecond(what)) {
            return NO_SUCH;
        }
        int refusal = hoursRefusal(tray, 10);
        if (refusal != 0) {
            return refusal;
        }
        seeker.goRound(now, trays, tray);
        return what == 0 ? seeker.timesMore : seeker.timesBefore;
    }

    // ---- sought

    public int soonest(int p, int thing, int place, int what) {
        boolean asked = what == 0 || (what >= 10 && what <= 17);
        if (!isPerson(p) || !(thing == NONE || isThing(thing)) || !asked) {
            return NO_SUCH;
        }
        if (thing != NONE && !isPlace(place)) {
            return BAD_NUMBER;
        }
        int steps = seeker.fewestSteps(now, p, thing, place);
        if (steps < 0 || what == 0) {
            return steps;
        }
        return what - 10 < steps ? seeker.doingOfWay(what - 10) : NONE;
    }

    public int states(int p, int n) {
        if (!isPerson(p)) {
            return NO_SUCH;
        }
        if (n < 0 || n > 4) {
            return BAD_NUMBER;
        }
        // States are unlike already by what people were told in the last 4 steps,
        // so no two rows of up to 4 doings lead to states that are alike.
        return NINES[n];
    }

    public int reach(int p, int n) {
        if (!isPerson(p)) {
            return NO_SUCH;
        }
        if (n < 0 || n > 4) {
            return BAD_NUMBER;
        }
        return seeker.cellsBehind(now, p, n);
    }

    // ---- laws that were seen

    public int fits(int tray) {
        int refusal = seenRefusal(tray);
        if (refusal != 0) {
            return refusal;
        }
        laws.learn(trays, tray);
        return laws.fitting();
    }

    public int smallest(int tray, int what) {
        int refusal = isFirstOrSecond(what) ? seenRefusal(tray) : NO_SUCH;
        if (refusal != 0) {
            return refusal;
        }
        laws.learn(trays, tray);
        int late = laws.latenessOfSmallest();
        if (late == NONE || what == 0) {
            return late;
        }
        return laws.mustLeaveOut[late];
    }

    public int sure(int tray) {
        int refusal = seenRefusal(tray);
        if (refusal != 0) {
            return refusal;
        }
        laws.learn(trays, tray);
        return laws.leftOutByAll();
    }

    public int telling(int tray, int what) {
        int refusal = isFirstOrSecond(what) ? seenRefusal(tray) : NO_SUCH;
        if (refusal != 0) {
            return refusal;
        }
        laws.learn(trays, tray);
        if (laws.fitting() < 2) {
            return NONE;
        }
        laws.chooseTelling();
        return what == 0 ? laws.bestDoing : laws.bestLeft;
    }

    // ---- what was meant, odds

    public int meant(int p, int tray, int k) {
        int refusal = meantRefusal(p, tray);
        if (refusal != 0) {
            return refusal;
        }
        guess.findRows(now, p, k, NONE);
        return k == NONE ? guess.found : guess.wantedRow;
    }

    public int maybe(int p, int tray, int place) {
        int refusal = meantRefusal(p, tray);
        if (refusal != 0) {
            return refusal;
        }
        if (place < 0 || place >= trays.size(tray)) {
            return BAD_NUMBER;
        }
        guess.findRows(now, p, NONE, place);
        return guess.doingsAtPlace;
    }

    public long odds(int p, int tray, int cell) {
        if (!isPerson(p) || !trays.isTray(tray)) {
            return NO_SUCH;
        }
        int refusal = hoursRefusal(tray, 8);
        if (refusal != 0) {
            return refusal;
        }
        return isCell(cell) ? guess.weightOf(now, p, trays, tray, cell) : BAD_NUMBER;
    }

    // ---- a game, debts

    public int win(int n, int m, int late) {
        if (n < 0 || n > Game.MOST_LEFT || !isGame(m, late)) {
            return BAD_NUMBER;
        }
        game.solve(m, late);
        return game.firstWinning(n);
    }

    public int wins(int m, int late) {
        if (!isGame(m, late)) {
            return BAD_NUMBER;
        }
        game.solve(m, late);
        return game.winnable();
    }

    public int lends(int p, int q, int n) {
        if (!areTwoPeople(p, q)) {
            return NO_SUCH;
        }
        if (n < 1 || n > 999) {
            return BAD_NUMBER;
        }
        int debt = Debts.owed(now, p, q) + n;
        if (debt > 99999) {
            return TOO_MANY;
        }
        past.remember(now);
        Debts.add(now, p, q, n);
        return debt;
    }

    public int owes(int p, int q, boolean there) {
        if (!areTwoPeople(p, q)) {
            return NO_SUCH;
        }
        return there ? Debts.owed(now, q, p) : Debts.owed(now, p, q);
    }

    public int balance(int p, boolean there) {
        if (!isPerson(p)) {
            return NO_SUCH;
        }
        int here = Debts.netOf(now, p);
        return there ? -here : here;
    }

    public int clear() {
        copyRow(now, trial);
        int taken = Debts.takeOffRings(now, live.people);
        if (taken > 0) {
            past.remember(trial);
        }
        return taken;
    }

    public int payments() {
        return Debts.fewestPayments(now, live.people);
    }

    // ---- trays, images

    public int numbers(int tray, int sort, int n) {
        if (!trays.isTray(tray) || sort < 0 || sort > 3) {
            return NO_SUCH;
        }
        if (n < 0 || n > MOST_NUMBERS) {
            return BAD_NUMBER;
        }
        trays.layOut(tray, sort, n);
        return 0;
    }

    public long write(int tray, int i, long v) {
        if (!trays.isTray(tray)) {
            return NO_SUCH;
        }
        if (trays.isMissing(tray)) {
            return TRAY_MISSING;
        }
        if (i < 0 || i >= trays.size(tray)) {
            return NO_NUMBER;
        }
        return trays.put(tray, i, v);
    }

    public int lists(int tray) {
        if (!trays.isTray(tray)) {
            return NO_SUCH;
        }
        if (trays.isMissing(tray)) {
            return TRAY_MISSING;
        }
        int listed = Math.min(live.things, trays.size(tray));
        for (int t = 0; t < listed; t++) {
            trays.put(tray, t, now[PLACE + t]);
        }
        return listed;
    }

    public int image(int i) {
        if (!isFirstOrSecond(i)) {
            return NO_SUCH;
        }
        Image kept = i == 0 ? firstImage : secondImage;
        kept.keep(live, now);
        return 0;
    }

    public int restore(int i) {
        if (!isFirstOrSecond(i)) {
            return NO_SUCH;
        }
        Image kept = i == 0 ? firstImage : secondImage;
        if (!kept.made) {
            return NOT_NOW;
        }
        live.become(kept.told);
        copyRow(kept.row, now);
        past.forget();
        return 0;
    }

    public int count(int what) {
        switch (what) {
            case 0:
                return live.deep;
            case 1:
                return live.people;
            case 2:
                return live.things;
            case 3:
                return live.rules;
            case 4:
                return live.miss;
            case 5:
                return now[STEPS];
            case 6:
                return past.kept;
            case 7:
                return reader.taped;
            case 8:
                return live.lines;
            default:
                return NONE;
        }
    }

    // ---- what the calls ask first

    private boolean isPerson(int p) {
        return p >= 0 && p < live.people;
    }

    private boolean areTwoPeople(int p, int q) {
        return isPerson(p) && isPerson(q) && p != q;
    }

    private boolean isThing(int t) {
        return t >= 0 && t < live.things;
    }

    private boolean isCell(long cell) {
        return cell >= 0 && cell < live.deep;
    }

    private boolean isPlace(int place) {
        int hands = 2 * live.people;
        return isCell(place)
            || isCell(place - (long) THERE)
            || (place >= HANDS_HERE && place < HANDS_HERE + hands)
            || (place >= HANDS_THERE && place < HANDS_THERE + hands);
    }

    private static boolean isDoing(int doing) {
        return doing >= 0 && doing < DOINGS;
    }

    private static boolean isFirstOrSecond(int what) {
        return what == 0 || what == 1;
    }

    private static boolean isGame(int m, int late) {
        return m >= 1 && m <= Game.MOST_TAKEN && late >= 0 && late <= Game.MOST_TURNS_LATE;
    }

    private int hoursRefusal(int tray, int most) {
        if (trays.isMissing(tray)) {
            return TRAY_MISSING;
        }
        int size = trays.size(tray);
        if (size < 1 || size > most) {
            return TOO_MANY;
        }
        for (int i = 0; i < size; i++) {
            if (!stage.areDoings(trays.at(tray, i))) {
                return BAD_NUMBER;
            }
        }
        return 0;
    }

    private int seenRefusal(int tray) {
        if (!trays.isTray(tray)) {
            return NO_SUCH;
        }
        if (trays.isMissing(tray)) {
            return TRAY_MISSING;
        }
        int size = trays.size(tray);
        if (size < 1 || size > Laws.MOST_SEEN) {
            return TOO_MANY;
        }
        for (int i = 0; i < size; i++) {
            long seen = trays.at(tray, i);
            if (seen < 0 || seen >= DOINGS * DOINGS) {
                return BAD_NUMBER;
            }
        }
        return 0;
    }

    private int meantRefusal(int p, int tray) {
        if (!isPerson(p) || !trays.isTray(tray)) {
            return NO_SUCH;
        }
        if (trays.isMissing(tray)) {
            return TRAY_MISSING;
        }
        int size = trays.size(tray);
        if (size < 1 || size > Guess.MOST_MEANT) {
            return TOO_MANY;
        }
        guess.startCells();
        for (int i = 0; i < size; i++) {
            long cell = trays.at(tray, i);
            if (cell != NONE && !isCell(cell)) {
                return BAD_NUMBER;
            }
            guess.addCell((int) cell);
        }
        return 0;
    }

    private void tryHours(int tray) {
        copyRow(now, trial);
        stage.spendHours(trial, trays, tray);
    }

    private static void copyRow(int[] from, int[] to) {
        System.arraycopy(from, 0, to, 0, ROW);
    }

    /** What a text told; it changes only as a whole. */
    private static final class Arcade {
        int deep = 5;
        int people;
        int things;
        int rules;
        int miss;
        int lines;
        int codeSize;
        final int[] cell = new int[MOST_PEOPLE];
        final int[] late = new int[MOST_PEOPLE];
        final int[] place = new int[MOST_THINGS];
        final int[] ruleFor = new int[MOST_RULES];
        final int[] ruleFrom = new int[MOST_RULES];
        final int[] ruleTo = new int[MOST_RULES];
        final int[] ruleDoing = new int[MOST_RULES];
        final int[] code = new int[MOST_BYTES];

        void empty() {
            deep = 5;
            people = 0;
            things = 0;
            rules = 0;
            miss = 0;
            lines = 0;
            codeSize = 0;
        }

        void become(Arcade other) {
            deep = other.deep;
            people = other.people;
            things = other.things;
            rules = other.rules;
            miss = other.miss;
            lines = other.lines;
            codeSize = other.codeSize;
            System.arraycopy(other.cell, 0, cell, 0, MOST_PEOPLE);
            System.arraycopy(other.late, 0, late, 0, MOST_PEOPLE);
            System.arraycopy(other.place, 0, place, 0, MOST_THINGS);
            System.arraycopy(other.ruleFor, 0, ruleFor, 0, MOST_RULES);
            System.arraycopy(other.ruleFrom, 0, ruleFrom, 0, MOST_RULES);
            System.arraycopy(other.ruleTo, 0, ruleTo, 0, MOST_RULES);
            System.arraycopy(other.ruleDoing, 0, ruleDoing, 0, MOST_RULES);
            System.arraycopy(other.code, 0, code, 0, MOST_BYTES);
        }

        void setUp(int[] row) {
            for (int i = 0; i < ROW; i++) {
                row[i] = 0;
            }
            for (int p = 0; p < people; p++) {
                row[CELL + p] = cell[p];
                row[CELL + MOST_PEOPLE + p] = cell[p];
            }
            for (int t = 0; t < things; t++) {
                row[PLACE + t] = place[t];
            }
        }

        void addPerson(int where, int lateness) {
            if (people < MOST_PEOPLE) {
                cell[people] = where;
                late[people] = lateness;
                people++;
            }
        }

        void addThing(int where) {
            if (things < MOST_THINGS) {
                place[things] = where;
                things++;
            }
        }

        void addRule(int who, int from, int doing) {
            if (rules < MOST_RULES) {
                ruleFor[rules] = who;
                ruleFrom[rules] = from;
                ruleTo[rules] = codeSize;
                ruleDoing[rules] = doing;
                rules++;
            }
        }

        // A token gives one code at most, so the code never is longer than a text.
        void addCode(int part) {
            if (codeSize < MOST_BYTES) {
                code[codeSize] = part;
                codeSize++;
            }
        }
    }

    /** The tape, and what reads a text from it: rules become rows in which signs stand behind what they join. */
    private static final class Reader {
        static final int MOST_WITHIN = 6;
        static final int MOST_DIGITS = 3;

        // Codes below are numbers of the text itself, which has three digits at most.
        static final int NAMES = 1000;
        static final int LATE_NAME = NAMES;
        static final int AT_NAME = NAMES + 1;
        static final int MINE_NAME = NAMES + 2;
        static final int LEFT_NAME = NAMES + 3;
        static final int RIGHT_NAME = NAMES + 4;
        static final int BORED_NAME = NAMES + 5;
        static final int SIGNS = 1010;
        static final int NOT = SIGNS;
        static final int PLUS = SIGNS + 1;
        static final int MINUS = SIGNS + 2;
        static final int TIMES = SIGNS + 3;
        static final int EQUAL = SIGNS + 4;
        static final int LESS = SIGNS + 5;
        static final int MORE = SIGNS + 6;
        static final int AND = SIGNS + 7;
        static final int OR = SIGNS + 8;
        static final int OPEN_SUM = SIGNS + 9;
        static final int OPEN_TRUTH = SIGNS + 10;
        static final int MOST_PENDING = 64;

        static final int END = 0;
        static final int BAD = 1;
        static final int WORD = 2;
        static final int NUMBER = 3;
        static final int SIGN = 4;

        final int[] tape = new int[MOST_BYTES];
        final Arcade draft = new Arcade();
        int taped;
        int fault;
        int place = NONE;
        private int length;
        private int at;
        private int start;
        private int kind;
        private int value;
        private final int[] pending = new int[MOST_PENDING];
        private int top;
        private int within;
        private int openSums;
        private int openTruths;
        private boolean wantsOperand;
        private boolean atUnitStart;
        private boolean compared;
        private boolean bracketed;

        boolean hasRoom() {
            return taped + 20 <= MOST_BYTES;
        }

        void tapeInt(int four) {
            for (int shift = 24; shift >= 0 && taped < MOST_BYTES; shift -= 8) {
                tape[taped] = (four >>> shift) & 255;
                taped++;
            }
        }

        boolean readText(int n) {
            length = Math.min(n, taped);
            taped = 0;
            at = 0;
            fault = 0;
            place = NONE;
            draft.empty();
            nextToken();
            for (int i = 0; i < length && kind != END; i++) {
                boolean good = isWord("deep") ? readDeep()
                    : isWord("person") ? readPerson()
                    : isWord("thing") ? readThing()
                    : isWord("rule") ? readRule()
                    : isWord("miss") ? readMiss()
                    : refuse();
                if (!good || !passSign(';')) {
                    return false;
                }
                draft.lines++;
            }
            return true;
        }

        private boolean readDeep() {
            if (draft.people > 0 || draft.things > 0) {
                return faultHere(2);
            }
            nextToken();
            if (!isNumberIn(2, MOST_DEEP)) {
                return false;
            }
            draft.deep = value;
            nextToken();
            return true;
        }

        private boolean readPerson() {
            if (draft.people >= MOST_PEOPLE) {
                return faultHere(4);
            }
            nextToken();
            if (!isNumberIn(0, draft.deep - 1)) {
                return false;
            }
            int cell = value;
            int late = 1;
            nextToken();
            if (isWord("late")) {
                nextToken();
                if (!isNumberIn(0, MOST_LATE)) {
                    return false;
                }
                late = value;
                nextToken();
            }
            draft.addPerson(cell, late);
            return true;
        }

        private boolean readThing() {
            if (draft.things >= MOST_THINGS) {
                return faultHere(4);
            }
            nextToken();
            if (!isNumberIn(0, draft.deep - 1)) {
                return false;
            }
            int where = value;
            nextToken();
            if (isWord("there")) {
                where += THERE;
                nextToken();
            }
            draft.addThing(where);
            return true;
        }

        private boolean readMiss() {
            nextToken();
            if (!isNumberIn(0, 9)) {
                return false;
            }
            draft.miss = value;
            nextToken();
            return true;
        }

        private boolean readRule() {
            if (draft.rules >= MOST_RULES) {
                return faultHere(4);
            }
            nextToken();
            int who = NONE;
            if (kind == NUMBER) {
                if (!isNumberIn(0, draft.people - 1)) {
                    return false;
                }
                who = value;
                nextToken();
            }
            int from = draft.codeSize;
            if (!passSign(':') || !readTruth()) {
                return false;
            }
            nextToken();
            int doing = doingOfWord();
            if (doing == NONE) {
                return refuse();
            }
            nextToken();
            draft.addRule(who, from, doing);
            return true;
        }

        // Signs wait until one comes that binds less, so that however deep a text goes, the calls do not.
        private boolean readTruth() {
            top = 0;
            within = 0;
            openSums = 0;
            openTruths = 0;
            startUnit();
            boolean good = true;
            for (int i = 0; i <= length && good; i++) {
                if (!wantsOperand && isWord("do") && isUnitWhole() && openTruths == 0) {
                    release(NONE);
                    return true;
                }
                good = wantsOperand ? readOperand() : readSumSign() || readTruthSign() || refuse();
                if (good) {
                    nextToken();
                }
            }
            return false;
        }

        private void startUnit() {
            wantsOperand = true;
            atUnitStart = true;
            compared = false;
            bracketed = false;
        }

        private boolean isUnitWhole() {
            return bracketed || (compared && openSums == 0);
        }

        private boolean readOperand() {
            if (isSign('(')) {
                atUnitStart = false;
                openSums++;
                return goWithin(OPEN_SUM);
            }
            if (atUnitStart && isSign('[')) {
                openTruths++;
                return goWithin(OPEN_TRUTH);
            }
            if (atUnitStart && isWord("not")) {
                return goWithin(NOT);
            }
            int part = kind == NUMBER ? value : nameOfWord();
            if (part == NONE) {
                return refuse();
            }
            draft.addCode(part);
            atUnitStart = false;
            wantsOperand = false;
            return true;
        }

        private boolean goWithin(int opening) {
            if (within >= MOST_WITHIN) {
                return faultHere(4);
            }
            within++;
            hold(opening);
            return true;
        }

        private boolean readSumSign() {
            if (bracketed || kind != SIGN) {
                return false;
            }
            if (value == ')' && openSums > 0) {
                release(OPEN_SUM);
                openSums--;
                return true;
            }
            int sign = signOfByte();
            boolean compares = sign == EQUAL || sign == LESS || sign == MORE;
            if (sign == NONE || (compares && (compared || openSums > 0))) {
                return false;
            }
            compared = compared || compares;
            join(sign);
            wantsOperand = true;
            return true;
        }

        private boolean readTruthSign() {
            if (!isUnitWhole()) {
                return false;
            }
            if (isSign(']') && openTruths > 0) {
                release(OPEN_TRUTH);
                openTruths--;
                bracketed = true;
                return true;
            }
            int sign = isWord("and") ? AND : isWord("or") ? OR : NONE;
            if (sign == NONE) {
                return false;
            }
            join(sign);
            startUnit();
            return true;
        }

        private void join(int sign) {
            for (int i = top - 1; i >= 0 && bindingOf(pending[i]) >= bindingOf(sign); i--) {
                settleTop();
            }
            hold(sign);
        }

        private void hold(int sign) {
            if (top < MOST_PENDING) {
                pending[top] = sign;
                top++;
            }
        }

        // All that waits behind the opening, and the opening itself, which leaves no code; all without one.
        private void release(int opening) {
            for (int i = top - 1; i >= 0 && pending[i] != opening; i--) {
                settleTop();
            }
            if (top > 0) {
                top--;
                within--;
            }
        }

        private void settleTop() {
            if (top > 0) {
                top--;
                within -= pending[top] == NOT ? 1 : 0;
                draft.addCode(pending[top]);
            }
        }

        private static int bindingOf(int sign) {
            switch (sign) {
                case OR:
                    return 1;
                case AND:
                    return 2;
                case NOT:
                    return 3;
                case EQUAL:
                case LESS:
                case MORE:
                    return 4;
                case PLUS:
                case MINUS:
                    return 5;
                case TIMES:
                    return 6;
                default:
                    return 0;
            }
        }

        private int signOfByte() {
            switch (value) {
                case '+':
                    return PLUS;
                case '-':
                    return MINUS;
                case '*':
                    return TIMES;
                case '=':
                    return EQUAL;
                case '<':
                    return LESS;
                case '>':
                    return MORE;
                default:
                    return NONE;
            }
        }

        private int nameOfWord() {
            return isWord("late") ? LATE_NAME
                : isWord("at") ? AT_NAME
                : isWord("mine") ? MINE_NAME
                : isWord("left") ? LEFT_NAME
                : isWord("right") ? RIGHT_NAME
                : isWord("bored") ? BORED_NAME
                : NONE;
        }

        private int doingOfWord() {
            return isWord("stay") ? STAY
                : isWord("to") ? TO
                : isWord("fro") ? FRO
                : isWord("takel") ? TAKE
                : isWord("taker") ? TAKE + 1
                : isWord("putl") ? PUT
                : isWord("putr") ? PUT + 1
                : isWord("reachl") ? REACH
                : isWord("reachr") ? REACH + 1
                : NONE;
        }

        private boolean isWord(String word) {
            if (kind != WORD || at - start != word.length()) {
                return false;
            }
            for (int i = 0; i < word.length(); i++) {
                if (tape[start + i] != word.charAt(i)) {
                    return false;
                }
            }
            return true;
        }

        private boolean isSign(char sign) {
            return kind == SIGN && value == sign;
        }

        private boolean passSign(char sign) {
            if (!isSign(sign)) {
                return refuse();
            }
            nextToken();
            return true;
        }

        private boolean isNumberIn(int least, int most) {
            if (kind != NUMBER) {
                return refuse();
            }
            return (value >= least && value <= most) || faultHere(3);
        }

        private boolean refuse() {
            return faultHere(kind == BAD ? 1 : 2);
        }

        private boolean faultHere(int which) {
            fault = which;
            place = start;
            return false;
        }

        private void nextToken() {
            while (at < length && (tape[at] == 10 || tape[at] == 32)) {
                at++;
            }
            start = at;
            if (at >= length) {
                kind = END;
            } else if (isLetter(tape[at])) {
                readWord();
            } else if (isDigit(tape[at])) {
                readDigits();
            } else {
                value = tape[at];
                kind = isSignByte(value) ? SIGN : BAD;
                at++;
            }
        }

        private void readWord() {
            kind = WORD;
            while (at < length && isLetter(tape[at])) {
                at++;
            }
        }

        private void readDigits() {
            value = 0;
            while (at < length && isDigit(tape[at])) {
                if (at - start < MOST_DIGITS) {
                    value = value * 10 + tape[at] - '0';
                }
                at++;
            }
            kind = at - start <= MOST_DIGITS ? NUMBER : BAD;
        }

        private static boolean isLetter(int sign) {
            return sign >= 'a' && sign <= 'z';
        }

        private static boolean isDigit(int sign) {
            return sign >= '0' && sign <= '9';
        }

        private static boolean isSignByte(int sign) {
            return ";:+-*()[]=<>".indexOf((char) sign) >= 0;
        }
    }

    /** Does steps on rows of the state, by the arcade that is told now. */
    private static final class Stage {
        static final int MOST_VALUE = 1000000;
        static final int MOST_WAITING = 64;

        final Arcade live;
        int stepsDone;
        int thingsPassed;
        int copiesFailed;
        int firstFailure;
        int firstFailing;
        private final int[] waiting = new int[MOST_WAITING];
        private final int[] named = new int[6];

        Stage(Arcade live) {
            this.live = live;
        }

        boolean areDoings(long doings) {
            return doings >= 0 && doings < NINES[live.people];
        }

        int advance(int[] row, int doings) {
            int rest = doings;
            for (int p = 0; p < live.people; p++) {
                int doing = rest % DOINGS;
                rest /= DOINGS;
                row[TOLD + p] = toldBehind(row[TOLD + p], doing);
                row[COULD + p] = act(row, p, doing);
            }
            for (int p = 0; p < live.people; p++) {
                int late = lateDoing(row[TOLD + p], p);
                row[BORED + p] = boredThen(row, p, late);
                int doing = chosen(row, p, late, row[CELL + p], row[BORED + p]);
                row[DID + p] = doing;
                row[COULD + MOST_PEOPLE + p] = act(row, MOST_PEOPLE + p, doing);
            }
            row[STEPS]++;
            return passThings(row);
        }

        // Nothing that others do in a step touches what this copy's rules look at, so the step itself needn't be done.
        int copyDoing(int[] row, int p, int doing) {
            int late = lateDoing(toldBehind(row[TOLD + p], doing), p);
            return chosen(row, p, late, moved(row[CELL + p], doing), boredThen(row, p, late));
        }

        // Such a doing does not move the person, and comes to its copy only later: in this step it is as if to stay.
        boolean isStayForNow(int p, int doing) {
            return doing >= TAKE && live.late[p] > 0;
        }

        int moved(int cell, int doing) {
            if (doing == TO && cell > 0) {
                return cell - 1;
            }
            if (doing == FRO && cell < live.deep - 1) {
                return cell + 1;
            }
            return cell;
        }

        int lateDoing(int told, int p) {
            return mirrored((told >>> (TOLD_BITS * live.late[p])) & TOLD_DIGIT);
        }

        static int toldBehind(int told, int doing) {
            return ((told << TOLD_BITS) | doing) & TOLD_KEPT;
        }

        // From takel on doings stand in pairs, left and then right.
        static int mirrored(int doing) {
            return doing < TAKE ? doing : ((doing - TAKE) ^ 1) + TAKE;
        }

        private static int boredThen(int[] row, int p, int late) {
            return late == STAY ? Math.min(MOST_BORED, row[BORED + p] + 1) : 0;
        }

        int handPlace(int actor, int hand) {
            return actor < MOST_PEOPLE
                ? HANDS_HERE + 2 * actor + hand
                : HANDS_THERE + 2 * (actor - MOST_PEOPLE) + hand;
        }

        int thingAt(int[] row, int place) {
            for (int t = 0; t < live.things; t++) {
                if (row[PLACE + t] == place) {
                    return t;
                }
            }
            return NONE;
        }

        private static int ground(int[] row, int actor) {
            return actor < MOST_PEOPLE ? row[CELL + actor] : THERE + row[CELL + actor];
        }

        boolean isAble(int[] row, int actor, int doing) {
            int cell = row[CELL + actor];
            switch (doing) {
                case STAY:
                    return true;
                case TO:
                case FRO:
                    return moved(cell, doing) != cell;
                case TAKE:
                case TAKE + 1:
                    return thingAt(row, handPlace(actor, doing - TAKE)) == NONE
                        && thingAt(row, ground(row, actor)) != NONE;
                case PUT:
                case PUT + 1:
                    return thingAt(row, handPlace(actor, doing - PUT)) != NONE;
                default:
                    return cell == 0;
            }
        }

        private int act(int[] row, int actor, int doing) {
            if (!isAble(row, actor, doing)) {
                return 0;
            }
            if (doing == TO || doing == FRO) {
                row[CELL + actor] = moved(row[CELL + actor], doing);
            } else if (doing == TAKE || doing == TAKE + 1) {
                carry(row, ground(row, actor), handPlace(actor, doing - TAKE));
            } else if (doing == PUT || doing == PUT + 1) {
                carry(row, handPlace(actor, doing - PUT), ground(row, actor));
            }
            return 1;
        }

        private void carry(int[] row, int from, int to) {
            int thing = thingAt(row, from);
            if (thing != NONE) {
                row[PLACE + thing] = to;
            }
        }

        private int passThings(int[] row) {
            int passed = 0;
            int busy = 0;
            for (int p = 0; p < live.people; p++) {
                int doing = row[TOLD + p] & TOLD_DIGIT;
                if (doing >= REACH && row[COULD + p] == 1) {
                    int partner = passWithFirst(row, p, doing, busy);
                    if (partner != NONE) {
                        busy |= 1 << partner;
                        passed++;
                    }
                }
            }
            return passed;
        }

        private int passWithFirst(int[] row, int p, int doing, int busy) {
            int hand = handPlace(p, doing - REACH);
            int answer = mirrored(doing);
            for (int c = 0; c < live.people; c++) {
                int actor = MOST_PEOPLE + c;
                boolean free = ((busy >> c) & 1) == 0;
                if (free && row[DID + c] == answer && row[COULD + actor] == 1) {
                    int other = handPlace(actor, answer - REACH);
                    int given = thingAt(row, hand);
                    int got = thingAt(row, other);
                    if (given != NONE && got == NONE) {
                        row[PLACE + given] = other;
                        return c;
                    }
                    if (given == NONE && got != NONE) {
                        row[PLACE + got] = hand;
                        return c;
                    }
                }
            }
            return NONE;
        }

        private int chosen(int[] row, int p, int late, int mine, int bored) {
            if (live.rules == 0) {
                return late;
            }
            named[Reader.LATE_NAME - Reader.NAMES] = late;
            named[Reader.AT_NAME - Reader.NAMES] = row[CELL + MOST_PEOPLE + p];
            named[Reader.MINE_NAME - Reader.NAMES] = mine;
            named[Reader.LEFT_NAME - Reader.NAMES] = holds(row, p, 0);
            named[Reader.RIGHT_NAME - Reader.NAMES] = holds(row, p, 1);
            named[Reader.BORED_NAME - Reader.NAMES] = bored;
            for (int r = 0; r < live.rules; r++) {
                if ((live.ruleFor[r] == NONE || live.ruleFor[r] == p) && isTrue(r)) {
                    return live.ruleDoing[r];
                }
            }
            return late;
        }

        private int holds(int[] row, int p, int hand) {
            return thingAt(row, handPlace(MOST_PEOPLE + p, hand)) == NONE ? 0 : 1;
        }

        private boolean isTrue(int rule) {
            int top = 0;
            for (int i = live.ruleFrom[rule]; i < live.ruleTo[rule]; i++) {
                int part = live.code[i];
                if (part < Reader.SIGNS) {
                    if (top >= MOST_WAITING) {
                        return false;
                    }
                    waiting[top] = part < Reader.NAMES ? part : named[part - Reader.NAMES];
                    top++;
                } else if (part == Reader.NOT) {
                    if (top < 1) {
                        return false;
                    }
                    waiting[top - 1] = 1 - waiting[top - 1];
                } else {
                    if (top < 2) {
                        return false;
                    }
                    top--;
                    waiting[top - 1] = kept(joined(part, waiting[top - 1], waiting[top]));
                }
            }
            return top == 1 && waiting[0] == 1;
        }

        private static long joined(int sign, int a, int b) {
            switch (sign) {
                case Reader.PLUS:
                    return (long) a + b;
                case Reader.MINUS:
                    return (long) a - b;
                case Reader.TIMES:
                    return (long) a * b;
                case Reader.EQUAL:
                    return a == b ? 1 : 0;
                case Reader.LESS:
                    return a < b ? 1 : 0;
                case Reader.MORE:
                    return a > b ? 1 : 0;
                case Reader.AND:
                    return a & b;
                default:
                    return a | b;
            }
        }

        private static int kept(long v) {
            return v > MOST_VALUE ? MOST_VALUE : v < -MOST_VALUE ? -MOST_VALUE : (int) v;
        }

        void spendHours(int[] row, Trays trays, int tray) {
            stepsDone = 0;
            thingsPassed = 0;
            copiesFailed = 0;
            firstFailure = NONE;
            firstFailing = NONE;
            for (int i = 0; i < trays.size(tray); i++) {
                long doings = trays.at(tray, i);
                if (!areDoings(doings)) {
                    return;
                }
                thingsPassed += advance(row, (int) doings);
                noteFailures(row);
                stepsDone++;
            }
        }

        private void noteFailures(int[] row) {
            for (int p = 0; p < live.people; p++) {
                if (row[COULD + MOST_PEOPLE + p] == 0) {
                    copiesFailed++;
                    if (firstFailure == NONE) {
                        firstFailure = stepsDone;
                        firstFailing = p;
                    }
                }
            }
        }

        int spendDay(int[] row, int seed, int steps) {
            int x = seed;
            int passed = 0;
            for (int i = 0; i < steps; i++) {
                int doings = 0;
                for (int p = 0; p < live.people; p++) {
                    x = 1103515245 * x + 12345;
                    doings += (x >>> 16) % DOINGS * NINES[p];
                }
                passed += advance(row, doings);
            }
            return passed;
        }
    }

    /** States to go back to, in a ring in which the eldest is written over. */
    private static final class Past {
        int kept;
        private int next;
        private final int[][] rows = new int[MOST_UNDONE][ROW];

        void forget() {
            kept = 0;
        }

        void remember(int[] row) {
            copyRow(row, rows[next]);
            next = (next + 1) % MOST_UNDONE;
            kept = Math.min(MOST_UNDONE, kept + 1);
        }

        void goBack(int n, int[] row) {
            next = Math.floorMod(next - n, MOST_UNDONE);
            kept = Math.max(0, kept - n);
            copyRow(rows[next], row);
        }
    }

    /** An arcade and a state to go on from. */
    private static final class Image {
        boolean made;
        final Arcade told = new Arcade();
        final int[] row = new int[ROW];

        void keep(Arcade from, int[] state) {
            told.become(from);
            copyRow(state, row);
            made = true;
        }
    }

    /** Four trays of numbers; a size of NONE tells that one is missing. */
    private static final class Trays {
        static final int TRAYS = 4;

        private final int[] sizes = {NONE, NONE, NONE, NONE};
        private final int[] sorts = new int[TRAYS];
        private final long[][] rows = new long[TRAYS][MOST_NUMBERS];

        boolean isTray(int tray) {
            return tray >= 0 && tray < TRAYS;
        }

        boolean isMissing(int tray) {
            return !isTray(tray) || sizes[tray] == NONE;
        }

        int size(int tray) {
            return isMissing(tray) ? 0 : sizes[tray];
        }

        long at(int tray, int i) {
            return i >= 0 && i < size(tray) ? rows[tray][i] : 0;
        }

        void layOut(int tray, int sort, int n) {
            if (!isTray(tray)) {
                return;
            }
            sizes[tray] = n;
            sorts[tray] = sort;
            for (int i = 0; i < MOST_NUMBERS; i++) {
                rows[tray][i] = 0;
            }
        }

        long put(int tray, int i, long v) {
            if (i < 0 || i >= size(tray)) {
                return 0;
            }
            rows[tray][i] = cut(sorts[tray], v);
            return rows[tray][i];
        }

        private static long cut(int sort, long v) {
            switch (sort) {
                case 0:
                    return (byte) v;
                case 1:
                    return (short) v;
                case 2:
                    return (int) v;
                default:
                    return v;
            }
        }
    }

    /** Looks for what steps lead to, on rows of its own. */
    private static final class Seeker {
        static final int MOST_ROUNDS = 200;

        // All rows of n doings, n up to 4, lead to unlike states, for those differ by what was told in the
        // last 4 steps. So behind 4 steps 6,561 and more were met, which is too many, and behind fewer some
        // are always new and 820 at most were met: a search ends within 4 steps, found or spent.
        static final int MOST_SOUGHT = 4;

        int timesMore;
        int timesBefore;
        private final Stage stage;
        private final int[][] rows = new int[MOST_SOUGHT + 1][ROW];
        private final int[] way = new int[MOST_SOUGHT];
        private final long[] bodies = new long[MOST_ROUNDS + 1];
        private final long[] tellings = new long[MOST_ROUNDS + 1];
        private int person;
        private int thing;
        private int place;

        Seeker(Stage stage) {
            this.stage = stage;
        }

        int fewestSteps(int[] now, int who, int what, int where) {
            person = who;
            thing = what;
            place = where;
            copyRow(now, rows[0]);
            if (isSought(rows[0], 0)) {
                return 0;
            }
            for (int steps = 1; steps <= MOST_SOUGHT; steps++) {
                if (isFoundBehind(0, steps)) {
                    return steps;
                }
            }
            return SPENT;
        }

        int doingOfWay(int k) {
            return k >= 0 && k < MOST_SOUGHT ? way[k] : NONE;
        }

        private boolean isSought(int[] row, int passed) {
            return thing == NONE ? passed > 0 : row[PLACE + thing] == place;
        }

        private boolean isFoundBehind(int depth, int steps) {
            if (depth >= MOST_SOUGHT) {
                return false;
            }
            for (int doing = 0; doing < DOINGS; doing++) {
                copyRow(rows[depth], rows[depth + 1]);
                int passed = stage.advance(rows[depth + 1], doing * NINES[person]);
                way[depth] = doing;
                boolean found = depth + 1 < steps
                    ? isFoundBehind(depth + 1, steps)
                    : isSought(rows[depth + 1], passed);
                if (found) {
                    return true;
                }
            }
            return false;
        }

        int cellsBehind(int[] now, int who, int steps) {
            person = who;
            copyRow(now, rows[0]);
            return steps == 0 ? 1 << now[CELL + MOST_PEOPLE + who] : cellsFrom(0, steps);
        }

        private int cellsFrom(int depth, int steps) {
            int cells = 0;
            if (depth >= MOST_SOUGHT) {
                return cells;
            }
            for (int doing = 0; doing < DOINGS; doing++) {
                if (depth + 1 < steps) {
                    copyRow(rows[depth], rows[depth + 1]);
                    stage.advance(rows[depth + 1], doing * NINES[person]);
                    cells |= cellsFrom(depth + 1, steps);
                } else if (!stage.isStayForNow(person, doing)) {
                    int done = stage.copyDoing(rows[depth], person, doing);
                    cells |= 1 << stage.moved(rows[depth][CELL + MOST_PEOPLE + person], done);
                }
            }
            return cells;
        }

        void goRound(int[] now, Trays trays, int tray) {
            int[] row = rows[0];
            copyRow(now, row);
            for (int times = 0; times <= MOST_ROUNDS; times++) {
                bodies[times] = bodyOf(row);
                tellings[times] = tellingOf(row);
                for (int before = 0; before < times; before++) {
                    if (bodies[before] == bodies[times] && tellings[before] == tellings[times]) {
                        timesBefore = before;
                        timesMore = times - before;
                        return;
                    }
                }
                stage.spendHours(row, trays, tray);
            }
            timesBefore = NONE;
            timesMore = NONE;
        }

        // Steps change no debts, so these two numbers tell all by which states are alike.
        private static long bodyOf(int[] row) {
            long body = 0;
            for (int actor = 0; actor < 2 * MOST_PEOPLE; actor++) {
                body = (body << 4) | row[CELL + actor];
            }
            for (int t = 0; t < MOST_THINGS; t++) {
                body = (body << 6) | row[PLACE + t];
            }
            for (int p = 0; p < MOST_PEOPLE; p++) {
                body = (body << 4) | row[BORED + p];
            }
            return body;
        }

        private static long tellingOf(int[] row) {
            long telling = 0;
            for (int p = 0; p < MOST_PEOPLE; p++) {
                telling = (telling << 16) | (row[TOLD + p] & TOLD_ALIKE);
            }
            return telling;
        }
    }

    /** What somebody did, by where his copy was; and where a copy is that misses. */
    private static final class Guess {
        static final int MOST_MEANT = 5;
        static final int ALL_DOINGS = 511;

        int found;
        int wantedRow;
        int doingsAtPlace;
        private final Stage stage;
        private final int[][] rows = new int[MOST_MEANT][ROW];
        private final int[] cells = new int[MOST_MEANT];
        private final long[] weights = new long[MOST_DEEP];
        private final long[] weightsThen = new long[MOST_DEEP];
        private int size;
        private int lastSeen;
        private int person;
        private int wanted;
        private int askedPlace;

        Guess(Stage stage) {
            this.stage = stage;
        }

        void startCells() {
            size = 0;
            lastSeen = NONE;
        }

        void addCell(int cell) {
            if (size < MOST_MEANT) {
                cells[size] = cell;
                if (cell != NONE) {
                    lastSeen = size;
                }
                size++;
            }
        }

        void findRows(int[] now, int who, int k, int place) {
            person = who;
            wanted = k;
            askedPlace = place;
            found = 0;
            wantedRow = NONE;
            doingsAtPlace = 0;
            copyRow(now, rows[0]);
            findFrom(0, 0);
        }

        private void findFrom(int depth, int told) {
            if (depth > lastSeen || depth >= MOST_MEANT) {
                takeAllFrom(depth, told);
                return;
            }
            if (depth == lastSeen) {
                findLast(depth, told);
                return;
            }
            for (int doing = 0; doing < DOINGS && depth + 1 < MOST_MEANT; doing++) {
                copyRow(rows[depth], rows[depth + 1]);
                stage.advance(rows[depth + 1], doing * NINES[person]);
                int cell = rows[depth + 1][CELL + MOST_PEOPLE + person];
                if (cells[depth] == NONE || cells[depth] == cell) {
                    findFrom(depth + 1, told * DOINGS + doing);
                }
            }
        }

        private void findLast(int depth, int told) {
            int[] row = rows[depth];
            int at = row[CELL + MOST_PEOPLE + person];
            int stayed = stage.moved(at, stage.copyDoing(row, person, STAY));
            for (int doing = 0; doing < DOINGS; doing++) {
                int cell = stage.isStayForNow(person, doing)
                    ? stayed
                    : stage.moved(at, stage.copyDoing(row, person, doing));
                if (cell == cells[depth]) {
                    takeAllFrom(depth + 1, told * DOINGS + doing);
                }
            }
        }

        // Behind the last cell that was seen all doings will do, so these rows are counted, not gone through.
        private void takeAllFrom(int depth, int told) {
            int free = depth >= 0 && depth <= size ? NINES[size - depth] : 1;
            if (wanted >= found && wanted < found + free) {
                wantedRow = told * free + wanted - found;
            }
            found += free;
            if (askedPlace >= depth) {
                doingsAtPlace = ALL_DOINGS;
            } else if (askedPlace >= 0 && depth <= MOST_MEANT) {
                doingsAtPlace |= 1 << (told / NINES[depth - 1 - askedPlace] % DOINGS);
            }
        }

        long weightOf(int[] now, int p, Trays trays, int tray, int cell) {
            for (int c = 0; c < MOST_DEEP; c++) {
                weights[c] = 0;
            }
            weights[now[CELL + MOST_PEOPLE + p]] = 1;
            int told = now[TOLD + p];
            for (int i = 0; i < trays.size(tray); i++) {
                int doing = (int) (trays.at(tray, i) / NINES[p] % DOINGS);
                told = Stage.toldBehind(told, doing);
                spreadWeights(stage.lateDoing(told, p));
            }
            return cell >= 0 && cell < MOST_DEEP ? weights[cell] : 0;
        }

        private void spreadWeights(int doing) {
            int miss = stage.live.miss;
            for (int c = 0; c < MOST_DEEP; c++) {
                weightsThen[c] = 0;
            }
            for (int c = 0; c < stage.live.deep; c++) {
                weightsThen[c] += weights[c] * miss;
                weightsThen[stage.moved(c, doing)] += weights[c] * (10 - miss);
            }
            System.arraycopy(weightsThen, 0, weights, 0, MOST_DEEP);
        }
    }

    /**
     * Laws of copying. Those of one lateness that fit are all the sets
     * with what must be left out, and without what can't be.
     */
    private static final class Laws {
        static final int MOST_SEEN = 30;
        static final int LATENESSES = MOST_LATE + 1;
        static final int STEPS_THAT_TELL = 5;
        static final int MOST_PARTS = LATENESSES << STEPS_THAT_TELL;

        final int[] mustLeaveOut = new int[LATENESSES];
        int bestDoing;
        int bestLeft;
        private final int[] cantLeaveOut = new int[LATENESSES];
        private final boolean[] fit = new boolean[LATENESSES];
        private final int[] told = new int[MOST_SEEN + STEPS_THAT_TELL];
        private final int[] seen = new int[MOST_SEEN];
        private final int[] expected = new int[STEPS_THAT_TELL];
        private final int[] partKeys = new int[MOST_PARTS];
        private final int[] partSizes = new int[MOST_PARTS];
        private int size;
        private int parts;

        void learn(Trays trays, int tray) {
            size = Math.min(MOST_SEEN, trays.size(tray));
            for (int i = 0; i < size; i++) {
                int both = (int) trays.at(tray, i);
                told[i] = both / DOINGS;
                seen[i] = both % DOINGS;
            }
            for (int late = 0; late < LATENESSES; late++) {
                learnFor(late);
            }
        }

        private void learnFor(int late) {
            int must = 0;
            int cant = 0;
            boolean good = true;
            for (int i = 0; i < size; i++) {
                int doing = doingAt(i, late);
                if (seen[i] != STAY) {
                    good = good && seen[i] == doing;
                    cant |= 1 << doing;
                } else if (doing != STAY) {
                    must |= 1 << doing;
                }
            }
            mustLeaveOut[late] = must;
            cantLeaveOut[late] = cant;
            fit[late] = good && (must & cant) == 0;
        }

        private int doingAt(int i, int late) {
            int from = i - late;
            if (from < 0 || from >= told.length) {
                return STAY;
            }
            return Stage.mirrored(told[from]);
        }

        private int openLaws(int late) {
            return DOINGS - 1 - Integer.bitCount(mustLeaveOut[late] | cantLeaveOut[late]);
        }

        int fitting() {
            int all = 0;
            for (int late = 0; late < LATENESSES; late++) {
                if (fit[late]) {
                    all += 1 << openLaws(late);
                }
            }
            return all;
        }

        int latenessOfSmallest() {
            int best = NONE;
            int fewest = DOINGS;
            for (int late = 0; late < LATENESSES; late++) {
                int leftOut = Integer.bitCount(mustLeaveOut[late]);
                if (fit[late] && leftOut < fewest) {
                    best = late;
                    fewest = leftOut;
                }
            }
            return best;
        }

        // With NONE, which is all bits, nothing is taken from the first that fits.
        int leftOutByAll() {
            int all = NONE;
            for (int late = 0; late < LATENESSES; late++) {
                if (fit[late]) {
                    all &= mustLeaveOut[late];
                }
            }
            return all;
        }

        void chooseTelling() {
            bestDoing = NONE;
            bestLeft = NONE;
            for (int doing = 0; doing < DOINGS; doing++) {
                int left = mostLeftTogether(doing);
                if (bestDoing == NONE || left < bestLeft) {
                    bestDoing = doing;
                    bestLeft = left;
                }
            }
        }

        private int mostLeftTogether(int doing) {
            for (int j = 0; j < STEPS_THAT_TELL; j++) {
                told[size + j] = j == 0 ? doing : STAY;
            }
            parts = 0;
            for (int late = 0; late < LATENESSES; late++) {
                if (fit[late]) {
                    partLaws(late);
                }
            }
            int most = 0;
            for (int i = 0; i < parts; i++) {
                most = Math.max(most, partSizes[i]);
            }
            return most;
        }

        // Only sets of those doings part the laws that are open and come in these steps, 5 at most.
        private void partLaws(int late) {
            int coming = 0;
            for (int j = 0; j < STEPS_THAT_TELL; j++) {
                expected[j] = doingAt(size + j, late);
                coming |= 1 << expected[j];
            }
            int open = coming & ~(mustLeaveOut[late] | cantLeaveOut[late] | 1 << STAY);
            int lawsEach = 1 << (openLaws(late) - Integer.bitCount(open));
            int subset = open;
            for (int i = 0; i < 1 << STEPS_THAT_TELL; i++) {
                addPart(keyOf(mustLeaveOut[late] | subset), lawsEach);
                if (subset == 0) {
                    return;
                }
                subset = (subset - 1) & open;
            }
        }

        private int keyOf(int leftOut) {
            int key = 0;
            for (int j = 0; j < STEPS_THAT_TELL; j++) {
                boolean stays = ((leftOut >> expected[j]) & 1) == 1;
                key = key * DOINGS + (stays ? STAY : expected[j]);
            }
            return key;
        }

        private void addPart(int key, int lawsEach) {
            for (int i = 0; i < parts; i++) {
                if (partKeys[i] == key) {
                    partSizes[i] += lawsEach;
                    return;
                }
            }
            if (parts < MOST_PARTS) {
                partKeys[parts] = key;
                partSizes[parts] = lawsEach;
                parts++;
            }
        }
    }

    /**
     * The game: for each row of what I took in the latest turns (0: there was no such turn)
     * the numbers of things left, as bits, with which I can win.
     */
    private static final class Game {
        static final int MOST_LEFT = 60;
        static final int MOST_TAKEN = 4;
        static final int MOST_TURNS_LATE = 3;
        static final int MOST_TURNS = 125;

        private final long[] winnings = new long[MOST_TURNS];
        private int most;
        private int late;
        private int eldest;

        void solve(int m, int lateness) {
            most = m;
            late = lateness;
            int turns = 1;
            eldest = 1;
            for (int i = 0; i < late; i++) {
                eldest = turns;
                turns *= most + 1;
            }
            turns = Math.min(turns, MOST_TURNS);
            for (int t = 0; t < turns; t++) {
                winnings[t] = 0;
            }
            for (int left = 1; left <= MOST_LEFT; left++) {
                for (int t = 0; t < turns; t++) {
                    if (leastWinning(left, t) > 0) {
                        winnings[t] |= 1L << left;
                    }
                }
            }
        }

        int firstWinning(int n) {
            return leastWinning(n, 0);
        }

        int winnable() {
            return Long.bitCount(winnings[0]);
        }

        private int leastWinning(int left, int turns) {
            for (int mine = 1; mine <= most && mine <= left; mine++) {
                if (isWinning(left, turns, mine)) {
                    return mine;
                }
            }
            return 0;
        }

        private boolean isWinning(int left, int turns, int mine) {
            int rest = left - mine;
            if (rest == 0) {
                return true;
            }
            // Turns are digits, the latest lowest; the eldest is the one the other copies now.
            int others = late == 0 ? mine : turns / Math.max(1, eldest);
            if (others >= rest) {
                return false;
            }
            int then = late == 0 ? 0 : turns % Math.max(1, eldest) * (most + 1) + mine;
            return then >= 0 && then < MOST_TURNS && ((winnings[then] >> (rest - others)) & 1) == 1;
        }
    }

    /** Debts in a row of the state. */
    private static final class Debts {
        static int owed(int[] row, int p, int q) {
            return row[DEBT + MOST_PEOPLE * p + q];
        }

        static void add(int[] row, int p, int q, int n) {
            row[DEBT + MOST_PEOPLE * p + q] += n;
        }

        static int netOf(int[] row, int p) {
            int net = 0;
            for (int q = 0; q < MOST_PEOPLE; q++) {
                net += owed(row, q, p) - owed(row, p, q);
            }
            return net;
        }

        static int takeOffRings(int[] row, int people) {
            int taken = 0;
            for (int p = 0; p < people; p++) {
                for (int q = p + 1; q < people; q++) {
                    taken += takeOffPair(row, p, q);
                }
            }
            if (people == 3) {
                taken += takeOffThree(row, 1, 2);
                taken += takeOffThree(row, 2, 1);
            }
            return taken;
        }

        private static int takeOffPair(int[] row, int p, int q) {
            int least = Math.min(owed(row, p, q), owed(row, q, p));
            add(row, p, q, -least);
            add(row, q, p, -least);
            return 2 * least;
        }

        private static int takeOffThree(int[] row, int second, int third) {
            int least = Math.min(owed(row, 0, second), Math.min(owed(row, second, third), owed(row, third, 0)));
            add(row, 0, second, -least);
            add(row, second, third, -least);
            add(row, third, 0, -least);
            return 3 * least;
        }

        // Three people at most can't part into two groups that settle each for itself,
        // so all whose balance isn't 0 but one have to pay or be paid.
        static int fewestPayments(int[] row, int people) {
            int unsettled = 0;
            for (int p = 0; p < people; p++) {
                if (netOf(row, p) != 0) {
                    unsettled++;
                }
            }
            return Math.max(0, unsettled - 1);
        }
    }
}
