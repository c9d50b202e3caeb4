import java.util.Random;

/** Whatever is asked in whatever state: no call throws or goes on for ever, and each answers within its bounds. */
public final class WildTest extends Asking {
    private static final int MOST_CALLS = 460;
    private static final int MOST_FOR_A_TEXT = 50;
    private static final int[] INTS = {Integer.MIN_VALUE, Integer.MIN_VALUE + 1, -1000000, -1001, -256, -31, -10, -3, -2, -1, 0, 1, 2, 3,
        4, 5, 6, 7, 8, 9, 10, 11, 17, 18, 19, 20, 25, 26, 29, 30, 31, 35, 36, 40, 41, 60, 61, 80, 81, 728, 729, 900, 901, 59049,
        65535, 65536, 99999, 1 << 30, Integer.MAX_VALUE - 1, Integer.MAX_VALUE};
    private static final String[] WORDS = {"deep ", "person ", "thing ", "rule", "miss ", "late ", "there", "not ", "and ", "or ", "do ",
        "at", "mine", "left", "right", "bored", "stay", "to", "fro", "takel", "putr", "reachl", ";", ":", "+", "-", "*", "(", ")", "[", "]",
        "=", "<", ">", "0", "1", "2", "9", "999", "1000", " ", "\n", "!", "A", "\u00e9"};
    private static final String[] LINES = {"deep 9;", "deep 2;", "person 0;", "person 1 late 0;", "person 1 late 4;", "thing 0;",
        "thing 1 there;", "miss 9;", "rule:1=1 do reachl;", "rule:bored*bored>mine-at do fro;", "rule 0:not[left=1 or late=3]do takel;",
        "rule:999*999*999*(0-999)<0 and right<1 do putr;"};

    public static void main(String[] args) {
        says("Nothing is promised beyond the answers and state changes described above");
        for (int run = 0; run < 1000; run++) {
            LateMirror x = new LateMirror();
            Random random = new Random(run);
            for (int calls = 0; calls < MOST_CALLS; calls += ask(x, random, run)) { }
        }
        end();
    }

    private static int wild(Random random) {
        int kind = random.nextInt(8);
        return kind < 5 ? random.nextInt(5) - 1 : kind < 7 ? INTS[random.nextInt(INTS.length)] : random.nextInt();
    }

    private static String text(Random random) {
        StringBuilder b = new StringBuilder();
        String[] parts = random.nextInt(6) == 0 ? WORDS : LINES;
        for (int i = random.nextInt(24); i > 0; i--) b.append(parts[random.nextInt(parts.length)]);
        return b.toString();
    }

    /** How many calls that were, at most. */
    private static int ask(LateMirror x, Random random, int run) {
        int a = wild(random);
        int b = wild(random);
        int c = wild(random);
        int d = wild(random);
        int call = random.nextInt(44);
        long got = first(x, random, call, a, b, c, d);
        long least = call == 30 || call == 31 || call == 35 ? Long.MIN_VALUE : -34;
        boolean fine = got >= least || got == -1000;
        due("run " + run + ": call " + call + " of " + a + ", " + b + ", " + c + ", " + d, fine ? 0 : got, 0);
        return call < 2 ? MOST_FOR_A_TEXT : 1;
    }

    private static long first(LateMirror x, Random random, int call, int a, int b, int c, int d) {
        switch (call) {
            case 0: case 1: return tell(x, text(random));
            case 2: return x.feed(a, b, c, d, random.nextInt());
            case 3: return x.arcade(a);
            case 4: return x.fault(a);
            case 5: return x.person(a, b);
            case 6: return x.copy(a, b);
            case 7: return x.thing(a);
            case 8: return x.can(a, b);
            case 9: return x.would(a, b);
            case 10: case 11: return x.step(random.nextInt(3) == 0 ? a : random.nextInt(81));
            case 12: return x.undo(a);
            case 13: return x.judge(a, b);
            case 14: return x.perform(a);
            case 15: return x.day(a, b);
            case 16: return x.fails(a, b);
            case 17: return x.round(a, b);
            case 18: return x.soonest(a, b, c, d);
            default: return second(x, random, call, a, b, c);
        }
    }

    private static long second(LateMirror x, Random random, int call, int a, int b, int c) {
        switch (call) {
            case 19: return x.states(a, b);
            case 20: return x.reach(a, b);
            case 21: return x.fits(a);
            case 22: return x.smallest(a, b);
            case 23: return x.sure(a);
            case 24: return x.telling(a, b);
            case 25: return x.meant(a, b, c);
            case 26: return x.maybe(a, b, c);
            case 27: return x.odds(a, b, c);
            case 28: return x.win(a, b, c);
            case 29: return x.wins(a, b);
            case 30: return x.balance(a, random.nextBoolean());
            case 31: return x.balance(Math.abs(a % 3), random.nextBoolean());
            case 32: return x.owes(a, b, random.nextBoolean());
            case 33: return x.clear();
            case 34: return x.payments();
            case 35: return x.write(a, b, random.nextInt(3) == 0 ? random.nextLong() : c);
            case 36: case 37: return x.numbers(a, b, random.nextInt(3) == 0 ? c : random.nextInt(9));
            case 38: return x.lists(a);
            case 39: return x.image(a);
            case 40: return x.restore(a);
            case 41: return x.count(a);
            default: return x.lends(a, b, c);
        }
    }
}
