import java.util.ArrayList;
import java.util.Collections;
import java.util.List;
import java.util.NoSuchElementException;
import java.util.Random;

/** Drawn texts and calls, from written seeds: the class answers as PlainRing does. */
public final class RandomCallsTest {
    private static final int RUNS = 500;
    private static int wrong = 0;
    private static final int[] faults = new int[7];
    private static final int[] rules = new int[6];
    private static int loops = 0;

    private final Random random;
    private final CombinatorRing real = new CombinatorRing();
    private final PlainRing model = new PlainRing();
    private final List<String> calls = new ArrayList<>();
    private final int seed;

    private RandomCallsTest(int seed) {
        this.seed = seed;
        this.random = new Random(seed);
    }

    public static void main(String[] args) {
        for (int seed = 0; seed < RUNS && wrong < 5; seed++) new RandomCallsTest(seed).play();
        // a fuzz that never comes to something tests nothing
        for (int kind = 1; kind <= 6; kind++) need("fault " + kind, faults[kind]);
        for (int rule = 0; rule <= 5; rule++) need("rule " + rule, rules[rule]);
        need("loops", loops);
        System.out.println(wrong == 0 ? "all answers are as due" : wrong + " answers are not as due");
        if (wrong != 0) System.exit(1);
    }

    private static void need(String what, int times) {
        if (times < 5) {
            wrong++;
            System.out.println("the drawn calls came only " + times + " times to: " + what);
        }
    }

    private void play() {
        int before = wrong;
        for (int i = 0; i < 120 && wrong == before; i++) {
            if (i == 0 || random.nextInt(25) == 0) newNet();
            else call();
            compareState();
        }
        for (int rule = 0; rule <= 5; rule++) rules[rule] += real.rule(rule);
        loops += real.count(8);
    }

    private boolean due(String call, long got, long want) {
        calls.add(call + " = " + got);
        if (got == want) return true;
        wrong++;
        System.out.println("seed " + seed + ": " + call + " answered " + got + ", due is " + want);
        for (String c : calls) System.out.println("    " + c);
        return false;
    }

    // ---- texts

    private final List<String> open = new ArrayList<>();
    private int names;

    private void newNet() {
        String text = drawText();
        if (random.nextInt(3) == 0) text = spoil(text);
        if (text.length() > 500) text = text.substring(0, 500);
        calls.add("TEXT " + text.replace('\n', '/'));
        int fed = feed(text);
        int n = random.nextInt(12) == 0 ? fed - random.nextInt(30) : text.length();
        if (random.nextInt(20) == 0) n = fed + 1 + random.nextInt(3);
        int want = model.net(n);
        due("net(" + n + ")", real.net(n), want);
        if (want < -2) faults[(-2 - want) % 8]++;
        if (want == PlainRing.NONE) {
            want = model.net(0);
            due("net(0)", real.net(0), want);
        }
    }

    private int feed(String text) {
        int fed = model.count(13);
        for (int i = 0; i < text.length(); i += 20) {
            int[] v = new int[5];
            for (int k = 0; k < 20; k++) {
                int b = i + k < text.length() ? text.charAt(i + k) : 32;
                v[k / 4] = v[k / 4] << 8 | b;
            }
            int want = model.feed(v[0], v[1], v[2], v[3], v[4]);
            due("feed(" + v[0] + ", " + v[1] + ", " + v[2] + ", " + v[3] + ", " + v[4] + ")",
                    real.feed(v[0], v[1], v[2], v[3], v[4]), want);
            fed = Math.max(fed, want);
        }
        return fed;
    }

    private String drawText() {
        open.clear();
        names = 0;
        if (random.nextInt(6) == 0) return drawRing();
        StringBuilder s = new StringBuilder();
        if (random.nextInt(2) == 0) {
            int m = random.nextInt(3) == 0 ? 8 + random.nextInt(293) : 8 + random.nextInt(40);
            s.append("memory ").append(m).append(";").append(gap());
        }
        int links = random.nextInt(8);
        int depth = random.nextInt(30) == 0 ? 22 : random.nextInt(5);
        for (int i = 0; i < links; i++) {
            s.append(tree(depth)).append(gap()).append("~").append(gap()).append(tree(depth)).append(";").append(gap());
        }
        // names that stand once are mostly closed, so that nets with rings come up
        while (open.size() > 16 || !open.isEmpty() && random.nextInt(3) != 0) {
            String a = open.remove(random.nextInt(open.size()));
            String b = open.isEmpty() || random.nextInt(3) == 0 ? leaf() : open.remove(random.nextInt(open.size()));
            s.append(a).append("~").append(b).append(";");
        }
        if (random.nextInt(40) == 0) {
            for (int i = 0; i < 9; i++) s.append("y").append((char) ('a' + i)).append("~z").append((char) ('a' + i)).append(";");
        }
        return s.toString();
    }

    /** A few nodes, all ports linked among themselves but for one or none: such nets often grow till memory is full. */
    private String drawRing() {
        int[] kinds = new int[3 + random.nextInt(4)];
        int ports = 0;
        for (int i = 0; i < kinds.length; i++) {
            kinds[i] = random.nextInt(7) == 0 ? 0 : 1 + random.nextInt(2);
            ports += kinds[i] == 0 ? 1 : 3;
        }
        List<String> ends = new ArrayList<>();
        for (int i = 0; i < ports; i++) ends.add(String.valueOf((char) ('a' + i / 2)));
        Collections.shuffle(ends, random);
        StringBuilder s = new StringBuilder("memory ").append(200 + random.nextInt(101)).append(";");
        for (int kind : kinds) {
            s.append(ends.remove(0)).append("~");
            if (kind == 0) s.append("*;");
            else s.append(kind == 1 ? "(" : "[").append(ends.remove(0)).append(" ").append(ends.remove(0)).append(kind == 1 ? ");" : "];");
        }
        return s.toString();
    }

    private String gap() {
        return random.nextInt(4) == 0 ? random.nextInt(3) == 0 ? "\n" : " " : "";
    }

    private String tree(int depth) {
        if (depth == 22) return deepTree();
        if (depth == 0 || random.nextInt(5) == 0) return leaf();
        String inner = tree(depth - 1) + " " + gap() + tree(depth - 1);
        return random.nextBoolean() ? "(" + inner + ")" : "[" + inner + "]";
    }

    private String deepTree() {
        int levels = 19 + random.nextInt(3);
        StringBuilder s = new StringBuilder();
        StringBuilder close = new StringBuilder();
        for (int i = 0; i < levels; i++) {
            boolean pairer = random.nextBoolean();
            s.append(pairer ? "(* " : "[");
            close.insert(0, pairer ? ")" : "*]");
        }
        return s + "*" + close;
    }

    private String leaf() {
        switch (random.nextInt(9)) {
            case 0: return "*";
            case 1: return "#" + gap() + random.nextInt(random.nextInt(10) == 0 ? 22 : 4);
            case 2:
                StringBuilder s = new StringBuilder("<");
                int most = random.nextInt(20) == 0 ? 13 : 4;
                for (int i = random.nextInt(most); i > 0; i--) s.append(random.nextInt(random.nextInt(25) == 0 ? 11 : 4)).append(" ");
                return s + ">";
            case 3: case 4: case 5:
                if (!open.isEmpty()) return open.remove(random.nextInt(open.size()));
                return newName();
            default: return newName();
        }
    }

    private String newName() {
        StringBuilder s = new StringBuilder();
        for (int n = names++, i = 0; i == 0 || n > 0; i++, n /= 20) s.append((char) ('a' + n % 20));
        String name = s.toString();
        open.add(name);
        return name;
    }

    private String spoil(String text) {
        StringBuilder s = new StringBuilder(text);
        String signs = " \n;~*#()[]<>aab019zmemory\t~A%\u00e9\u0000";
        for (int i = random.nextInt(3); i >= 0; i--) {
            int at = random.nextInt(s.length() + 1);
            String sign = String.valueOf(signs.charAt(random.nextInt(signs.length())));
            switch (random.nextInt(5)) {
                case 0: s.insert(at, sign); break;
                case 1: if (at < s.length()) s.deleteCharAt(at); break;
                case 2: if (at < s.length()) s.setCharAt(at, sign.charAt(0)); break;
                case 3: s.insert(at, random.nextInt(2000)); break;
                default: s.insert(at, random.nextBoolean() ? "memory" : "abcdef");
            }
        }
        return s.toString();
    }

    // ---- calls

    private int root() {
        int i = random.nextInt(20) - 2;
        return random.nextInt(4) == 0 ? i : Math.max(model.rootAt(random.nextInt(Math.max(1, model.count(6)))), 0);
    }

    private int node() {
        return random.nextInt(Math.max(1, model.count(10) + 3)) - 1;
    }

    private int most() {
        int[] some = {0, 1, 2, 3, 5, 10, 40, 300, random.nextInt(100), -1, 10000};
        return random.nextInt(100) == 0 ? 9999 : some[random.nextInt(some.length)];
    }

    private int order() {
        return random.nextInt(15) == 0 ? random.nextInt(6) - 2 : random.nextInt(3);
    }

    private int drawnSeed() {
        return random.nextBoolean() ? random.nextInt() : random.nextInt(10);
    }

    private void call() {
        switch (random.nextInt(4)) {
            case 0: step(); break;
            case 1: byHand(); break;
            case 2: think(); break;
            default: ask();
        }
    }

    private void step() {
        int a;
        int b;
        int c;
        switch (random.nextInt(8)) {
            case 0: case 1: case 2: case 3:
                a = order(); b = random.nextInt(3) == 0 ? most() : random.nextInt(4); c = drawnSeed();
                due("run(" + a + ", " + b + ", " + c + ")", real.run(a, b, c), model.run(a, b, c));
                break;
            case 4: case 5:
                due("round()", real.round(), model.round());
                break;
            default:
                a = random.nextInt(3) == 0 ? node() : model.pair(random.nextInt(Math.max(1, model.count(4))), random.nextInt(8) == 0 ? 1 : 0);
                due("reduce(" + a + ")", real.reduce(a), model.reduce(a));
        }
    }

    private void byHand() {
        int a = root();
        int b;
        switch (random.nextInt(9)) {
            case 0:
                b = random.nextInt(10) == 0 ? random.nextInt(25) - 2 : random.nextInt(5);
                due("put(" + a + ", " + b + ")", real.put(a, b), model.put(a, b));
                break;
            case 1:
                due("split(" + a + ")", real.split(a), model.split(a));
                break;
            case 2:
                due("twice(" + a + ")", real.twice(a), model.twice(a));
                break;
            case 3:
                due("drop(" + a + ")", real.drop(a), model.drop(a));
                break;
            case 4: case 5:
                b = root();
                due("join(" + a + ", " + b + ")", real.join(a, b), model.join(a, b));
                break;
            case 6: case 7:
                due("undo()", real.undo(), model.undo());
                break;
            default:
                b = random.nextInt(8) == 0 ? random.nextInt(5) - 2 : random.nextInt(2);
                boolean back = random.nextBoolean();
                due("image(" + b + ", " + back + ")", real.image(b, back) ? 1 : 0, model.image(b, back) ? 1 : 0);
        }
    }

    private void think() {
        int a = order();
        int b = order();
        int c = random.nextInt(40) == 0 ? 9999 : Math.min(most(), random.nextInt(3) == 0 ? 99999 : 300);
        int d = drawnSeed();
        int e = random.nextInt(4) - (random.nextInt(5) == 0 ? 1 : 0);
        switch (random.nextInt(6)) {
            case 0: case 1:
                due("tried(" + a + ", " + c + ", " + d + ", " + e + ")", real.tried(a, c, d, e), model.tried(a, c, d, e));
                break;
            case 2:
                if (random.nextInt(3) == 0) due("rounds()", real.rounds(), model.rounds());
                break;
            case 3: case 4:
                due("alike(" + a + ", " + b + ", " + c + ", " + d + ")", real.alike(a, b, c, d), model.alike(a, b, c, d));
                break;
            default:
                due("likeImage(" + (e - 1) + ")", real.likeImage(e - 1), model.likeImage(e - 1));
        }
    }

    private void ask() {
        int a = random.nextInt(24) - 2;
        int b = random.nextInt(6) - 2;
        due("pair(" + a + ", " + b + ")", real.pair(a, b), model.pair(a, b));
        due("met(" + a + ", " + b + ")", real.met(a, b), model.met(a, b));
        due("link(" + a + ", " + b + ")", real.link(a, b), model.link(a, b));
        due("next(" + (a * 11) + ")", real.next(a * 11), model.next(a * 11));
        due("count(" + a + ")", real.count(a), model.count(a));
        due("rule(" + a + ")", real.rule(a), model.rule(a));
        due("rootAt(" + a + ")", real.rootAt(a), model.rootAt(a));
    }

    // ---- all that can be asked

    private void compareState() {
        int kept = calls.size();
        for (int what = 0; what <= 13; what++) if (!due("count(" + what + ")", real.count(what), model.count(what))) return;
        for (int rule = 0; rule <= 5; rule++) if (!due("rule(" + rule + ")", real.rule(rule), model.rule(rule))) return;
        for (int root = -1; root <= 16; root++) if (!compareRoot(root)) return;
        int nodes = model.count(10) + 2;
        for (int node = -1; node < nodes; node++) {
            if (!due("kind(" + node + ")", real.kind(node), model.kind(node))) return;
            for (int port = -1; port <= 3; port++) {
                if (!due("link(" + node + ", " + port + ")", real.link(node, port), model.link(node, port))) return;
            }
        }
        int pairs = model.count(4);
        for (int k = 0; k <= pairs; k++) {
            for (int what = 0; what <= 3; what++) {
                if (!due("pair(" + k + ", " + what + ")", real.pair(k, what), model.pair(k, what))) return;
            }
        }
        for (int k = -1; k < model.count(9) + 2; k++) if (!due("next(" + k + ")", real.next(k), model.next(k))) return;
        if (!due("seen()", real.seen(), model.seen())) return;
        calls.subList(kept, calls.size()).clear();
    }

    private boolean compareRoot(int root) {
        if (!due("root(" + root + ")", real.root(root), model.root(root))) return false;
        int i = random.nextInt(5) - 2;
        long got;
        long want;
        try {
            got = real.number(root) + 1000L * real.list(root, -1) + 1000000L * real.list(root, i);
        } catch (NoSuchElementException e) {
            got = Long.MAX_VALUE;
        }
        try {
            want = model.number(root) + 1000L * model.list(root, -1) + 1000000L * model.list(root, i);
        } catch (NoSuchElementException e) {
            want = Long.MAX_VALUE;
        }
        return due("number, list of root " + root, got, want);
    }
}
