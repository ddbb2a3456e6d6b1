import java.lang.reflect.Constructor;
import java.lang.reflect.Field;
import java.lang.reflect.Member;
import java.lang.reflect.Method;
import java.lang.reflect.Modifier;
import java.nio.file.Files;
import java.nio.file.Path;
import java.util.ArrayList;
import java.util.Arrays;
import java.util.HashSet;
import java.util.List;
import java.util.NoSuchElementException;
import java.util.Random;
import java.util.Set;
import java.util.TreeSet;

/** The public face is the document's and no more; no call on it throws but as the document says. */
public final class FaceTest {
    private static final String[] FACE = {
        "int feed(int, int, int, int, int)", "int net(int)", "int count(int)", "int rule(int)", "int kind(int)",
        "int link(int, int)", "int root(int)", "int rootAt(int)", "int pair(int, int)", "int next(int)",
        "int number(int)", "int list(int, int)", "int seen()", "int met(int, int)", "int run(int, int, int)",
        "int round()", "int reduce(int)", "int tried(int, int, int, int)", "int rounds()",
        "int alike(int, int, int, int)", "int likeImage(int)", "int put(int, int)", "int split(int)",
        "int twice(int)", "int drop(int)", "int join(int, int)", "int undo()", "boolean image(int, boolean)"};
    private static final String[] TEXTS = {
        "", "a ~ b;", "memory 9; d ~ *; b ~ *; a ~ (b c); a ~ [c d];", "[x y] ~ <2 0 1>; * ~ (* *);",
        "memory 8; [x y] ~ #3;", "(a b) ~ [a b];", "memory 300; [a b] ~ #20; a ~ [c d]; b ~ [e f];", "a ~ (("};
    private static int wrong = 0;

    public static void main(String[] args) throws Exception {
        faceIsTheDocuments();
        faceIsToldAsInTheDocument(Path.of(args.length > 0 ? args[0] : "."));
        noPrivateNamesake();
        for (int seed = 0; seed < 60; seed++) {
            wildCalls(new Random(seed));
        }
        System.out.println(wrong == 0 ? "the face is as due" : wrong + " faults of the face");
        if (wrong != 0) {
            System.exit(1);
        }
    }

    private static void due(String what, Object got, Object want) {
        if (!got.equals(want)) {
            wrong++;
            System.out.println(what + ": " + got + ", due is " + want);
        }
    }

    private static String told(Method m) {
        List<String> types = new ArrayList<>();
        for (Class<?> type : m.getParameterTypes()) {
            types.add(type.getName());
        }
        return m.getReturnType().getName() + " " + m.getName() + "(" + String.join(", ", types) + ")";
    }

    private static void faceIsTheDocuments() throws Exception {
        Class<?> c = CombinatorRing.class;
        due("modifiers of the class", c.getModifiers(), Modifier.PUBLIC | Modifier.FINAL);
        Set<String> methods = new TreeSet<>();
        for (Method m : c.getDeclaredMethods()) {
            if (isOpen(m)) {
                methods.add(told(m));
                due("modifiers of " + m.getName(), m.getModifiers(), Modifier.PUBLIC);
            }
        }
        due("methods", methods, new TreeSet<>(Arrays.asList(FACE)));
        List<String> fields = new ArrayList<>();
        for (Field f : c.getDeclaredFields()) {
            if (isOpen(f)) {
                fields.add(f.getName());
            }
            due("a static field is final: " + f.getName(),
                !Modifier.isStatic(f.getModifiers()) || Modifier.isFinal(f.getModifiers()), true);
        }
        due("fields", fields, List.of("NONE"));
        due("NONE", c.getField("NONE").getInt(null), -1);
        Constructor<?>[] all = c.getDeclaredConstructors();
        due("constructors", all.length, 1);
        due("a public constructor", all[0].getModifiers(), Modifier.PUBLIC);
        due("without parameters", all[0].getParameterCount(), 0);
    }

    /** Each line of the document's face stands in the source, with its parameters' names and its exceptions. */
    private static void faceIsToldAsInTheDocument(Path here) throws Exception {
        Path doc = here.resolve("..").resolve("shared").resolve("DOC.md");
        if (!Files.exists(doc)) {
            return;
        }
        Path file = here.resolve("src").resolve("main").resolve("java").resolve("CombinatorRing.java");
        List<String> source = new ArrayList<>();
        for (String line : Files.readAllLines(file)) {
            source.add(line.trim());
        }
        String text = Files.readString(doc);
        String face = text.substring(text.indexOf("```java"), text.indexOf("## Terms"));
        int told = 0;
        for (String line : face.split("\n")) {
            String wanted = line.trim();
            if (wanted.startsWith("public ")) {
                told++;
                boolean isMethod = wanted.endsWith(");") || wanted.contains(" throws ");
                due("in the source: " + wanted,
                    source.contains(isMethod ? wanted.replace(";", " {") : wanted), true);
            }
        }
        due("lines of the face: the class, the constant, the constructor, methods", told, FACE.length + 3);
        Path home = here.resolve("src").resolve("main").resolve("java");
        try (java.util.stream.Stream<Path> files = Files.list(home)) {
            due("files of the program", files.count(), 1L);
        }
    }

    private static boolean isOpen(Member m) {
        return !Modifier.isPrivate(m.getModifiers()) && !m.isSynthetic();
    }

    private static void noPrivateNamesake() {
        Set<String> names = new HashSet<>();
        for (Method m : CombinatorRing.class.getMethods()) {
            if (m.getDeclaringClass() == CombinatorRing.class) {
                names.add(m.getName());
            }
        }
        List<Method> others = new ArrayList<>(Arrays.asList(CombinatorRing.class.getDeclaredMethods()));
        for (Class<?> inside : CombinatorRing.class.getDeclaredClasses()) {
            due("static: " + inside.getName(), Modifier.isStatic(inside.getModifiers()), true);
            others.addAll(Arrays.asList(inside.getDeclaredMethods()));
        }
        for (Method m : others) {
            boolean isFace = Modifier.isPublic(m.getModifiers());
            due("a namesake of the face: " + m, !isFace && names.contains(m.getName()), false);
        }
    }

    private static int wild(Random r) {
        int[] some = {Integer.MIN_VALUE, Integer.MAX_VALUE, -2, -1, 1000, 299, 300, 500, 501, 9999, 10000};
        switch (r.nextInt(4)) {
            case 0: return some[r.nextInt(some.length)];
            case 1: return r.nextInt();
            default: return r.nextInt(20);
        }
    }

    private static void wildCalls(Random r) throws Exception {
        CombinatorRing x = new CombinatorRing();
        List<Method> face = new ArrayList<>();
        for (Method m : CombinatorRing.class.getDeclaredMethods()) {
            if (Modifier.isPublic(m.getModifiers())) {
                face.add(m);
            }
        }
        face.sort((a, b) -> told(a).compareTo(told(b)));
        for (int i = 0; i < 512; i++) {
            if (r.nextInt(40) == 0) {
                readText(x, TEXTS[r.nextInt(TEXTS.length)]);
                continue;
            }
            Method m = face.get(r.nextInt(face.size()));
            Object[] with = new Object[m.getParameterCount()];
            for (int k = 0; k < with.length; k++) {
                with[k] = m.getParameterTypes()[k] == boolean.class ? (Object) r.nextBoolean() : (Object) wild(r);
            }
            wildCall(x, m, with);
        }
    }

    private static void readText(CombinatorRing x, String text) {
        for (int i = 0; i < text.length(); i += 20) {
            int[] v = new int[5];
            for (int k = 0; k < 20; k++) {
                v[k / 4] = v[k / 4] << 8 | (i + k < text.length() ? text.charAt(i + k) : ' ');
            }
            x.feed(v[0], v[1], v[2], v[3], v[4]);
        }
        x.net(text.length());
    }

    private static void wildCall(CombinatorRing x, Method m, Object[] with) throws Exception {
        try {
            m.invoke(x, with);
        } catch (java.lang.reflect.InvocationTargetException e) {
            boolean isDue = e.getCause() instanceof NoSuchElementException && m.getExceptionTypes().length == 1
                && x.root((Integer) with[0]) == CombinatorRing.NONE;
            due(m.getName() + Arrays.toString(with) + " threw " + e.getCause(), isDue, true);
        }
    }
}
