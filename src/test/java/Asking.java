import java.io.IOException;
import java.io.UncheckedIOException;
import java.nio.file.Files;
import java.nio.file.Path;

/** What the tests of sentences share: texts and trays told in one call, answers counted, sentences looked up. */
abstract class Asking {
    private static final Path DOCUMENT = Path.of("../shared/DOC.md");
    private static final String[] DOINGS = {"stay", "to", "fro", "takel", "taker", "putl", "putr", "reachl", "reachr"};
    private static int wrong = 0;
    private static int asked = 0;
    private static int sentences = 0;
    private static String saying = "";
    private static String document = null;

    /** What follows would fail, if these words of the document were broken. */
    static void says(String words) {
        sentences++;
        saying = words;
        if (!document().contains(words)) {
            wrong++;
            System.out.println("the document does not say: " + words);
        }
    }

    private static String document() {
        if (document == null) {
            try {
                document = Files.readString(DOCUMENT).replaceAll("\\s+", " ");
            } catch (IOException e) {
                throw new UncheckedIOException(e);
            }
        }
        return document;
    }

    static void due(String call, long got, long want) {
        asked++;
        if (got != want) {
            wrong++;
            System.out.println("'" + saying + "': " + call + " answered " + got + ", due is " + want);
        }
    }

    static void end() {
        System.out.println(sentences + " sentences, " + asked + " answers, " + wrong + " wrong");
        if (wrong != 0) System.exit(1);
    }

    static String doing(int d) {
        return DOINGS[d];
    }

    /** The text with blanks behind it, so that whole calls of feed() are filled. */
    static void feedAll(LateMirror x, String text) {
        for (int from = 0; from < text.length(); from += 20) {
            int[] v = new int[5];
            for (int k = 0; k < 20; k++) {
                int c = from + k < text.length() ? text.charAt(from + k) : 32;
                v[k / 4] = v[k / 4] << 8 | c;
            }
            x.feed(v[0], v[1], v[2], v[3], v[4]);
        }
    }

    static int tell(LateMirror x, String text) {
        feedAll(x, text);
        return x.arcade(text.length());
    }

    static LateMirror told(String text) {
        LateMirror x = new LateMirror();
        int lines = tell(x, text);
        if (lines < 0) due("arcade() of a good text: " + text, lines, 0);
        return x;
    }

    static void good(String text, int lines) {
        LateMirror x = new LateMirror();
        due("arcade() of " + text, tell(x, text), lines);
        due("fault(0) of " + text, x.fault(0), 0);
        due("fault(1) of " + text, x.fault(1), -1);
    }

    static void faulty(String text, int fault, int place) {
        LateMirror x = new LateMirror();
        due("arcade() of " + text, tell(x, text), -30 - fault);
        due("fault(0) of " + text, x.fault(0), fault);
        due("fault(1) of " + text, x.fault(1), place);
    }

    static void fill(LateMirror x, int tray, long... values) {
        x.numbers(tray, 3, values.length);
        for (int i = 0; i < values.length; i++) x.write(tray, i, values[i]);
    }

    /** All that can be asked of what is told and done, up to three people, four things and the trays. */
    static long[] observed(LateMirror x) {
        long[] all = new long[128];
        int n = 0;
        for (int i = 0; i < 9; i++) all[n++] = x.count(i);
        for (int i = 0; i < 2; i++) all[n++] = x.fault(i);
        for (int p = 0; p < 3; p++) {
            for (int what = 0; what < 6; what++) all[n++] = x.person(p, what);
            for (int what = 0; what < 6; what++) all[n++] = x.copy(p, what);
            for (int q = 0; q < 3; q++) all[n++] = x.owes(p, q, false);
            all[n++] = x.would(p, 0);
            all[n++] = x.would(p, 1);
        }
        for (int i = 0; i < 4; i++) {
            all[n++] = x.thing(i);
            for (int what = 0; what < 4; what++) all[n++] = x.judge(i, what);
            all[n++] = x.fits(i);
            all[n++] = x.sure(i);
        }
        return all;
    }

    /** Both are the same but for one of the counts; all are to be, where that is NONE. */
    static void dueSame(long[] before, long[] behind, int but) {
        for (int i = 0; i < before.length; i++) {
            if (i != but) due("what was asked as number " + i, behind[i], before[i]);
        }
    }

    static String times(String part, int n) {
        return part.repeat(n);
    }
}
