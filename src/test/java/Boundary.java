import java.lang.reflect.InvocationTargetException;
import java.lang.reflect.Method;
import java.lang.reflect.Modifier;
import java.nio.file.Files;
import java.nio.file.Path;
import java.util.ArrayList;
import java.util.Comparator;
import java.util.List;
import java.util.NoSuchElementException;
import java.util.TreeSet;

/**
 * What the boundary tests share. Each of their tests begins with at(..): the part of the document and the
 * sentence's own words; these are looked up in DOC.md, so that no test is for a sentence that isn't there.
 */
final class Boundary {
    static final int NONE = CombinatorRing.NONE;
    static final int LEAST = Integer.MIN_VALUE;
    static final int GREATEST = Integer.MAX_VALUE;

    private static int wrong = 0;
    private static String where = "";
    private static String words = "";
    private static final TreeSet<String> parts = new TreeSet<>();
    private static String document = "";

    private Boundary() {
    }

    /** Runs every method of a class that isn't private, by its name's order; ends with 1 if one failed. */
    static void runAll(Class<?> tests, String[] args, String... wantedParts) throws Exception {
        Path doc = Path.of(args.length > 0 ? args[0] : ".", "..", "shared", "DOC.md");
        document = Files.exists(doc) ? Files.readString(doc) : "";
        List<Method> found = new ArrayList<>();
        for (Method method : tests.getDeclaredMethods()) {
            if (!Modifier.isPrivate(method.getModifiers()) && !method.isSynthetic()) {
                found.add(method);
            }
        }
        found.sort(Comparator.comparing(Method::getName));
        for (Method method : found) {
            run(method);
        }
        for (String part : wantedParts) {
            if (!parts.contains(part)) {
                fail("no test is for " + part);
            }
        }
        System.out.println(found.size() + " tests: " + (wrong == 0 ? "all answers are as due"
            : wrong + " answers are not as due"));
        if (wrong != 0) {
            System.exit(1);
        }
    }

    private static void run(Method method) throws Exception {
        where = "";
        try {
            method.invoke(null);
        } catch (InvocationTargetException e) {
            fail(method.getName() + " threw " + e.getCause());
        }
        if (where.isEmpty()) {
            fail(method.getName() + " doesn't say for which sentence it is");
        }
    }

    private static void fail(String what) {
        wrong++;
        System.out.println(what);
    }

    /** For which sentence the answers that follow are due. */
    static void at(String part, String sentence) {
        where = part;
        words = sentence;
        parts.add(part);
        if (!document.isEmpty() && !plain(partOf(part)).contains(plain(sentence))) {
            fail("not in the document at " + part + ": " + sentence);
        }
    }

    private static String partOf(String part) {
        int from = document.indexOf("\n## " + part);
        int to = from < 0 ? -1 : document.indexOf("\n## ", from + 1);
        return from < 0 ? "" : document.substring(from, to < 0 ? document.length() : to);
    }

    private static String plain(String text) {
        return text.replaceAll("\\s+", " ");
    }

    static void due(String what, long got, long want) {
        if (got != want) {
            fail(where + ", '" + words + "': " + what + " answered " + got + ", due is " + want);
        }
    }

    static void due(String what, boolean got, boolean want) {
        due(what, got ? 1 : 0, want ? 1 : 0);
    }

    // ---- texts

    static void feedText(CombinatorRing x, String text) {
        for (int i = 0; i < text.length(); i += 20) {
            int[] v = new int[5];
            for (int k = 0; k < 20; k++) {
                int sign = i + k < text.length() ? text.charAt(i + k) : ' ';
                v[k / 4] = v[k / 4] << 8 | sign;
            }
            x.feed(v[0], v[1], v[2], v[3], v[4]);
        }
    }

    static int read(CombinatorRing x, String text) {
        feedText(x, text);
        return x.net(text.length());
    }

    static CombinatorRing of(String text) {
        CombinatorRing x = new CombinatorRing();
        int nodes = read(x, text);
        if (nodes < 0) {
            fail(where + ", '" + words + "': the text was refused with " + nodes + ": " + text);
        }
        return x;
    }

    static void fine(String text, int nodes) {
        due("the text " + text, read(new CombinatorRing(), text), nodes);
    }

    static void fault(String text, int place, int kind) {
        due("the text " + text, read(new CombinatorRing(), text), -2 - (8 * place + kind));
    }

    /** Texts end at a place; this one is refused there, as its first fault. */
    static void faultAtEnd(String text, int kind) {
        fault(text, text.length(), kind);
    }

    // ---- exceptions

    static boolean numberThrows(CombinatorRing x, int root) {
        try {
            x.number(root);
            return false;
        } catch (NoSuchElementException e) {
            return true;
        }
    }

    static boolean listThrows(CombinatorRing x, int root, int i) {
        try {
            x.list(root, i);
            return false;
        } catch (NoSuchElementException e) {
            return true;
        }
    }

    // ---- all that an object tells of itself; for small nets some 100 calls

    static String state(CombinatorRing x) {
        return net(x) + " images " + x.count(11) + ", back " + x.count(12) + ", tape " + x.count(13);
    }

    /** What IMAGES hold and undo() brings again. */
    static String net(CombinatorRing x) {
        StringBuilder told = new StringBuilder("counts");
        for (int what = 0; what <= 10; what++) {
            told.append(' ').append(x.count(what));
        }
        told.append(", rules");
        for (int rule = 0; rule < 6; rule++) {
            told.append(' ').append(x.rule(rule));
        }
        told.append(", nodes");
        for (int node = 0; node <= x.count(10); node++) {
            int kind = x.kind(node);
            told.append(' ').append(kind);
            for (int port = 0; kind >= 0 && port <= (kind == 0 ? 0 : 2); port++) {
                told.append(':').append(x.link(node, port));
            }
        }
        told.append(", roots");
        for (int root = 0; root < x.count(7); root++) {
            told.append(' ').append(x.root(root));
        }
        told.append(", next");
        for (int k = 0; k <= x.count(9); k++) {
            told.append(' ').append(x.next(k));
        }
        return told.toString();
    }

    static void same(String what, String got, String want) {
        if (!got.equals(want)) {
            fail(where + ", '" + words + "': " + what + ":\n  " + got + "\nis not\n  " + want);
        }
    }

    /** Each PORT is LINKED to just one other one, both ways. */
    static void linkedBothWays(CombinatorRing x) {
        for (int node = 0; node <= x.count(10); node++) {
            int kind = x.kind(node);
            for (int port = 0; kind >= 0 && port <= (kind == 0 ? 0 : 2); port++) {
                due("what port " + port + " of " + node + " is linked to", backFrom(x, x.link(node, port)), 3 * node + port);
            }
        }
        for (int root = 0; root < x.count(7); root++) {
            if (x.root(root) != NONE) {
                due("what root " + root + " is linked to", backFrom(x, x.root(root)), 1000 + root);
            }
        }
    }

    private static int backFrom(CombinatorRing x, int place) {
        return place >= 1000 ? x.root(place - 1000) : x.link(place / 3, place % 3);
    }
}
