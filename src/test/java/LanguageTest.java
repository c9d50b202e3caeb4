import java.io.IOException;
import java.nio.file.Files;
import java.nio.file.Path;
import java.util.ArrayList;
import java.util.List;
import java.util.TreeSet;
import java.util.regex.Matcher;
import java.util.regex.Pattern;

/** What of LANGUAGE.md can be seen in the class's text alone. */
public final class LanguageTest {
    private static final Path SOURCE = Path.of("src/main/java/LateMirror.java");
    private static final int MOST_LINES = 60;
    private static final int MOST_PARAMETERS = 7;
    private static final int MOST_CLASSES = 12;
    private static int wrong = 0;

    private static void refuse(int line, String why) {
        wrong++;
        System.out.println("line " + line + ": " + why);
    }

    public static void main(String[] args) throws IOException {
        List<String> lines = bare(Files.readAllLines(SOURCE));
        words(lines);
        methods(lines);
        names(lines);
        System.out.println(lines.size() + " lines, " + wrong + " against the rules");
        if (wrong != 0) System.exit(1);
    }

    /** The lines without comments, and with texts emptied. */
    private static List<String> bare(List<String> lines) {
        List<String> bare = new ArrayList<>();
        boolean comment = false;
        for (String line : lines) {
            String b = line.replaceAll("\"(\\\\.|[^\"])*\"", "\"\"").replaceAll("//.*", "").replaceAll("/\\*.*?\\*/", "");
            if (comment) b = b.contains("*/") ? b.substring(b.indexOf("*/") + 2) : "";
            boolean opens = b.contains("/*");
            comment = opens || (comment && !line.contains("*/"));
            bare.add(opens ? b.substring(0, b.indexOf("/*")) : b);
        }
        return bare;
    }

    private static void words(List<String> lines) {
        Pattern never = Pattern.compile("\\b(throw|throws|try|catch|finally|synchronized|assert|import|package|protected|native|volatile"
            + "|System\\.(?!arraycopy)\\w+|Object|Thread|Random)\\b|->|::|@");
        for (int i = 0; i < lines.size(); i++) {
            Matcher m = never.matcher(lines.get(i));
            if (m.find()) refuse(i + 1, "'" + m.group() + "' may not stand here");
            if (lines.get(i).matches(".*\\bstatic\\b(?!.*(\\(|\\bfinal\\b|\\bclass\\b)).*")) refuse(i + 1, "static, but not final");
            for (int k = 0; k < lines.get(i).length(); k++) {
                if (lines.get(i).charAt(k) > 126) refuse(i + 1, "a sign above 126");
            }
        }
    }

    private static void methods(List<String> lines) {
        Pattern head = Pattern.compile("^\\s+[\\w\\[\\] ]*\\b\\w+\\(([^()]*)\\) \\{$");
        int classes = 0;
        for (int i = 0; i < lines.size(); i++) {
            String line = lines.get(i);
            if (line.matches(".*\\bclass \\w+ \\{")) classes++;
            Matcher m = head.matcher(line);
            if (!m.matches() || line.matches("^\\s+(if|for|while|switch|} else).*")) continue;
            int parameters = m.group(1).isBlank() ? 0 : m.group(1).split(",").length;
            if (parameters > MOST_PARAMETERS) refuse(i + 1, parameters + " parameters");
            String end = line.replaceAll("\\S.*", "") + "}";
            int k = i;
            while (k < lines.size() && !lines.get(k).equals(end)) k++;
            if (k - i > MOST_LINES) refuse(i + 1, "a method of " + (k - i) + " lines");
        }
        if (classes > MOST_CLASSES) refuse(1, classes + " classes");
    }

    /** The face is public and nothing else of the class is seen; its names are used once. */
    private static void names(List<String> lines) {
        TreeSet<String> face = new TreeSet<>();
        Pattern method = Pattern.compile("^ {4}public (int|long) (\\w+)\\(.*");
        for (String line : lines) {
            Matcher m = method.matcher(line);
            if (m.matches()) face.add(m.group(2));
        }
        if (face.size() != 38) refuse(1, face.size() + " public methods");
        Pattern other = Pattern.compile("^\\s+(private |static )*(int|long|boolean|void|int\\[\\]) (\\w+)\\(.*\\{$");
        for (int i = 0; i < lines.size(); i++) {
            Matcher m = other.matcher(lines.get(i));
            if (m.matches() && face.contains(m.group(3))) refuse(i + 1, "the name of a public method: " + m.group(3));
            String line = lines.get(i);
            if (line.matches("^ {4}[a-z].*") && !line.matches("^ {4}(public|private) .*")) refuse(i + 1, "a member that others see");
        }
    }
}
