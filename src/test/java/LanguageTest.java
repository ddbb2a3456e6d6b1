import java.nio.charset.StandardCharsets;
import java.nio.file.Files;
import java.nio.file.Path;
import java.util.List;
import java.util.regex.Matcher;
import java.util.regex.Pattern;

/** What of LANGUAGE.md can be seen in the source's lines; the rest is for who reads it. */
public final class LanguageTest {
    private static final int MOST_LINES = 60;
    private static final int MOST_PARAMETERS = 7;
    private static final int MOST_CLASSES = 12;
    private static final String[] RULED_OUT = {
        "->", "::", "\\bfinally\\b", "\\bsynchronized\\b", "\\bassert\\b", "\\bgetMessage\\b", "\\bhashCode\\b",
        "\\btoString\\b", "Exact\\b", "\\bObject\\b", "\\bHashMap\\b", "\\bRandom\\b", "\\bvolatile\\b",
        "\\bpackage\\b", "\\bSystem\\.(?!arraycopy)", "\\bArrays\\.(?!fill|copyOf)", "\\bcatch\\b",
        "\\bstatic\\s*\\{", "\\bwhile\\s*\\(true\\)", "for\\s*\\(;;\\)", "\"\\s*\\+", "\\+\\s*\""};
    private static int wrong = 0;

    public static void main(String[] args) throws Exception {
        Path source = Path.of(args.length > 0 ? args[0] : ".", "src", "main", "java", "CombinatorRing.java");
        List<String> lines = Files.readAllLines(source, StandardCharsets.US_ASCII);
        int classes = 0;
        for (int i = 0; i < lines.size(); i++) {
            String code = lines.get(i).replaceAll("//.*|/\\*\\*.*", "");
            checkLine(i + 1, code);
            if (code.matches(".*\\bclass\\b.*")) {
                classes++;
            }
        }
        need("classes: " + classes, classes <= MOST_CLASSES);
        checkMethods(lines);
        System.out.println(wrong == 0 ? "the source keeps to what can be seen" : wrong + " places to mend");
        if (wrong != 0) {
            System.exit(1);
        }
    }

    private static void need(String what, boolean holds) {
        if (!holds) {
            wrong++;
            System.out.println(what);
        }
    }

    private static void checkLine(int number, String code) {
        for (String pattern : RULED_OUT) {
            need("line " + number + " has " + pattern + ": " + code, !Pattern.compile(pattern).matcher(code).find());
        }
        if (code.startsWith("import ")) {
            need("line " + number + ": " + code, code.matches("import java\\.util\\.(Arrays|NoSuchElementException);"));
        }
        if (code.matches(".*\\bthrow new\\b.*")) {
            need("line " + number + ": " + code, code.contains("NoSuchElementException"));
        }
    }

    private static void checkMethods(List<String> lines) {
        Pattern head = Pattern.compile("^( {4}| {8})[A-Za-z][^=;]*\\(([^)]*)\\)[^;]*\\{$");
        for (int i = 0; i < lines.size(); i++) {
            Matcher m = head.matcher(lines.get(i));
            if (!m.matches()) {
                continue;
            }
            int end = i;
            while (end < lines.size() && !lines.get(end).equals(m.group(1) + "}")) {
                end++;
            }
            need("line " + (i + 1) + ": a method of " + (end - i + 1) + " lines", end - i < MOST_LINES);
            int parameters = m.group(2).isEmpty() ? 0 : m.group(2).split(",").length;
            need("line " + (i + 1) + ": " + parameters + " parameters", parameters <= MOST_PARAMETERS);
        }
    }
}
