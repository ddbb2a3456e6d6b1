import java.io.File;
import java.lang.reflect.Method;
import java.lang.reflect.Modifier;
import java.net.URL;
import java.net.URLClassLoader;
import java.nio.file.Files;
import java.nio.file.Path;
import java.util.ArrayList;
import java.util.Comparator;
import java.util.List;
import java.util.TreeSet;
import java.util.regex.Matcher;
import java.util.regex.Pattern;
import java.util.stream.Stream;
import javax.tools.JavaCompiler;
import javax.tools.ToolProvider;

/**
 * The calls that README.md shows answer as it says: its java blocks are made one program, in which each call is
 * compared with the answer behind it; that program is compiled and run.
 */
public final class ReadmeTest {
    private static final Pattern CALL = Pattern.compile("(\\w[\\w.]*\\(.*\\));\\s*// (-?\\d+|true|false)(: \\S.*)?");
    private static final Pattern THROWN = Pattern.compile("(\\w[\\w.]*\\(.*\\));\\s*// throws (\\w+)");
    private static final Pattern NAME = Pattern.compile("ring\\.(\\w+)\\(.*");
    private static final int LEAST_CALLS = 40;

    private static int wrong = 0;
    private static int calls = 0;
    private static final StringBuilder body = new StringBuilder();
    private static final StringBuilder members = new StringBuilder();
    private static final TreeSet<String> shown = new TreeSet<>();

    public static void main(String[] args) throws Exception {
        Path here = Path.of(args.length > 0 ? args[0] : ".");
        List<String> lines = Files.readAllLines(here.resolve("README.md"));
        for (List<String> block : blocks(lines)) {
            takeBlock(block);
        }
        need("calls that README.md shows with an answer: " + calls, calls >= LEAST_CALLS);
        allOfTheFaceIsShown();
        saysHowToRunTheTests(here, String.join("\n", lines));
        if (wrong == 0) {
            runProgram();
        }
        System.out.println(calls + " calls of README.md: "
            + (wrong == 0 ? "all answers are as due" : wrong + " answers are not as due"));
        if (wrong != 0) {
            System.exit(1);
        }
    }

    private static void need(String what, boolean holds) {
        if (!holds) {
            wrong++;
            System.out.println(what);
        }
    }

    private static List<List<String>> blocks(List<String> lines) {
        List<List<String>> found = new ArrayList<>();
        List<String> open = null;
        for (String line : lines) {
            if (open == null && line.equals("```java")) {
                open = new ArrayList<>();
            } else if (open != null && line.equals("```")) {
                found.add(open);
                open = null;
            } else if (open != null) {
                open.add(line);
            }
        }
        need("a block of README.md has no end", open == null);
        return found;
    }

    private static void takeBlock(List<String> block) {
        if (!block.isEmpty() && block.get(0).startsWith("static ")) {
            block.forEach(line -> members.append(line).append('\n'));
            return;
        }
        for (String line : block) {
            takeLine(line.trim());
        }
    }

    private static void takeLine(String line) {
        Matcher call = CALL.matcher(line);
        Matcher thrown = THROWN.matcher(line);
        if (thrown.matches()) {
            show(thrown.group(1));
            String told = quoted(thrown.group(1));
            body.append("try { due(").append(told).append(", ").append(thrown.group(1)).append(", \"to throw\"); }\n");
            body.append("catch (java.util.").append(thrown.group(2)).append(" e) { }\n");
        } else if (call.matches()) {
            show(call.group(1));
            body.append("due(").append(quoted(call.group(1))).append(", ").append(call.group(1)).append(", ");
            body.append(quoted(call.group(2))).append(");\n");
        } else {
            // What isn't a call with its answer may only make an object.
            need("README.md shows no answer of: " + line, line.matches("CombinatorRing \\w+ = new CombinatorRing\\(\\);"));
            body.append(line).append('\n');
        }
    }

    private static void show(String call) {
        calls++;
        Matcher name = NAME.matcher(call);
        if (name.matches()) {
            shown.add(name.group(1));
        }
    }

    private static String quoted(String text) {
        return '"' + text.replace("\\", "\\\\").replace("\"", "\\\"") + '"';
    }

    private static void allOfTheFaceIsShown() {
        for (Method method : CombinatorRing.class.getDeclaredMethods()) {
            if (Modifier.isPublic(method.getModifiers())) {
                need("README.md doesn't show " + method.getName(), shown.contains(method.getName()));
            }
        }
    }

    private static void saysHowToRunTheTests(Path here, String readme) throws Exception {
        need("README.md doesn't name .ci/run", readme.contains(".ci/run"));
        need(".ci/run isn't there, or can't be run", Files.isExecutable(here.resolve(".ci").resolve("run")));
        try (Stream<Path> files = Files.list(here.resolve("src").resolve("test").resolve("java"))) {
            for (Path file : files.sorted().toList()) {
                String name = file.getFileName().toString().replace(".java", "");
                need("README.md doesn't name " + name, readme.contains("`" + name + "`"));
            }
        }
    }

    private static String program() {
        return "public final class ReadmeCalls {\n"
            + "static int wrong = 0;\n"
            + "static void due(String call, Object got, String want) {\n"
            + "if (!String.valueOf(got).equals(want)) {\n"
            + "wrong++;\n"
            + "System.out.println(call + \" answered \" + got + \", README.md says \" + want);\n"
            + "}\n"
            + "}\n"
            + members
            + "public static int answers() {\n" + body + "return wrong;\n}\n"
            + "}\n";
    }

    private static void runProgram() throws Exception {
        Path room = Files.createTempDirectory("readme");
        try {
            Path source = room.resolve("ReadmeCalls.java");
            Files.writeString(source, program());
            JavaCompiler compiler = ToolProvider.getSystemJavaCompiler();
            String path = System.getProperty("java.class.path");
            int failed = compiler.run(null, null, null, "-cp", path, "-d", room.toString(), source.toString());
            need("what README.md shows isn't Java", failed == 0);
            if (failed == 0) {
                answer(room);
            }
        } finally {
            clear(room);
        }
    }

    private static void answer(Path room) throws Exception {
        URL[] places = {room.toUri().toURL()};
        try (URLClassLoader loader = new URLClassLoader(places, ReadmeTest.class.getClassLoader())) {
            wrong += (Integer) loader.loadClass("ReadmeCalls").getMethod("answers").invoke(null);
        }
    }

    private static void clear(Path room) throws Exception {
        try (Stream<Path> files = Files.walk(room)) {
            files.sorted(Comparator.reverseOrder()).map(Path::toFile).forEach(File::delete);
        }
    }
}
