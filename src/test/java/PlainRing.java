import java.util.ArrayList;
import java.util.HashMap;
import java.util.HashSet;
import java.util.List;
import java.util.Map;
import java.util.NoSuchElementException;
import java.util.Set;
import java.util.TreeMap;
import java.util.TreeSet;

/**
 * The document told a second time, as slowly and plainly as it reads, with maps, names and copies:
 * RandomCallsTest compares the class with it. It shares no code and no way of holding the net.
 */
final class PlainRing {
    static final int NONE = -1;

    /** An end of a link: a node's port, a root, or a place where a name stands. */
    record End(char sort, int number, int port) {
        int told() {
            return sort == 'n' ? 3 * number + port : 1000 + number;
        }
        boolean isHead() {
            return sort == 'n' && port == 0;
        }
    }

    static final class Fault extends RuntimeException {
        private static final long serialVersionUID = 1L;
        final int place;
        final int kind;
        Fault(int place, int kind) {
            this.place = place;
            this.kind = kind;
        }
    }

    static final class State {
        int memory = 200;
        final TreeMap<Integer, Integer> kinds = new TreeMap<>();
        final Map<End, End> links = new HashMap<>();
        final List<Integer> freed = new ArrayList<>();
        final TreeSet<Integer> roots = new TreeSet<>();
        int given;
        int made;
        int freedEver;
        int loops;
        int rootsEver;
        int[] rules = new int[6];

        State copy() {
            State c = new State();
            c.memory = memory;
            c.kinds.putAll(kinds);
            c.links.putAll(links);
            c.freed.addAll(freed);
            c.roots.addAll(roots);
            c.given = given;
            c.made = made;
            c.freedEver = freedEver;
            c.loops = loops;
            c.rootsEver = rootsEver;
            c.rules = rules.clone();
            return c;
        }

        int make(int kind) {
            int n = freed.isEmpty() ? given++ : freed.remove(freed.size() - 1);
            if (n >= memory) throw new IllegalStateException("the model made too many nodes");
            kinds.put(n, kind);
            made++;
            return n;
        }

        void free(int n) {
            kinds.remove(n);
            for (int p = 0; p < 3; p++) links.remove(new End('n', n, p));
            freed.add(n);
            freedEver++;
        }

        void tie(End a, End b) {
            links.put(a, b);
            links.put(b, a);
        }

        boolean room(int more) {
            return kinds.size() + more <= memory;
        }

        End head(int n) {
            return new End('n', n, 0);
        }

        End numberTree(int n) {
            if (n == 0) return head(make(0));
            int p = make(1);
            tie(new End('n', p, 1), head(make(0)));
            tie(new End('n', p, 2), numberTree(n - 1));
            return head(p);
        }

        End listTree(List<Integer> numbers) {
            if (numbers.isEmpty()) return head(make(0));
            int p = make(1);
            tie(new End('n', p, 1), numberTree(numbers.get(0)));
            tie(new End('n', p, 2), listTree(numbers.subList(1, numbers.size())));
            return head(p);
        }

        /** All pairs: X to Y. */
        TreeMap<Integer, Integer> pairs() {
            TreeMap<Integer, Integer> found = new TreeMap<>();
            for (int n : kinds.keySet()) {
                End e = links.get(head(n));
                if (e.isHead() && n < e.number()) found.put(n, e.number());
            }
            return found;
        }

        int ruleOf(int x, int y) {
            Set<Integer> both = Set.of(kinds.get(x) * 10, kinds.get(y) * 10 + 1);
            boolean eraser = both.contains(0) || both.contains(1);
            boolean pairer = both.contains(10) || both.contains(11);
            boolean doubler = both.contains(20) || both.contains(21);
            if (eraser && pairer) return 3;
            if (eraser && doubler) return 4;
            if (pairer && doubler) return 5;
            return eraser ? 0 : pairer ? 1 : 2;
        }

        boolean can(int x, int y) {
            return ruleOf(x, y) != 5 || room(2);
        }

        List<Integer> ready() {
            List<Integer> found = new ArrayList<>();
            pairs().forEach((x, y) -> { if (can(x, y)) found.add(x); });
            return found;
        }

        int reduce(int x) {
            int y = pairs().get(x);
            int rule = ruleOf(x, y);
            int kx = kinds.get(x);
            int ky = kinds.get(y);
            // inner ends keep sort 'i'; links among them and to the outside are kept apart
            Map<End, End> inner = new HashMap<>();
            for (int n : new int[] {x, y}) {
                for (int p = 1; p <= 2 && kinds.get(n) != 0; p++) {
                    End to = links.get(new End('n', n, p));
                    if (to.sort() == 'n' && (to.number() == x || to.number() == y)) to = new End('i', to.number(), to.port());
                    inner.put(new End('i', n, p), to);
                }
            }
            free(x);
            free(y);
            rules[rule]++;
            if (kx == ky) {
                if (kx != 0) annihilate(inner, x, y);
                return rule;
            }
            Map<End, End> standsFor = new HashMap<>();
            if (kx == 0 || ky == 0) {
                int other = kx == 0 ? y : x;
                standsFor.put(new End('i', other, 1), head(make(0)));
                standsFor.put(new End('i', other, 2), head(make(0)));
            } else {
                int pairer = kx == 1 ? x : y;
                int doubler = kx == 1 ? y : x;
                int[] d = new int[3];
                int[] q = new int[3];
                d[1] = make(2);
                d[2] = make(2);
                q[1] = make(1);
                q[2] = make(1);
                for (int k = 1; k <= 2; k++) {
                    standsFor.put(new End('i', pairer, k), head(d[k]));
                    standsFor.put(new End('i', doubler, k), head(q[k]));
                    for (int m = 1; m <= 2; m++) tie(new End('n', d[k], m), new End('n', q[m], k));
                }
            }
            standsFor.forEach((i, h) -> {
                End to = inner.get(i);
                tie(h, standsFor.getOrDefault(to, to));
            });
            return rule;
        }

        /** Walks from each outside end through the two nodes to the outside again; rings are loops. */
        private void annihilate(Map<End, End> inner, int x, int y) {
            Set<End> walked = new HashSet<>();
            for (End start : inner.keySet()) {
                if (inner.get(start).sort() == 'i' || walked.contains(start)) continue;
                End at = start;
                while (true) {
                    walked.add(at);
                    End across = new End('i', at.number() == x ? y : x, at.port());
                    walked.add(across);
                    End to = inner.get(across);
                    if (to.sort() != 'i') {
                        tie(inner.get(start), to);
                        break;
                    }
                    at = to;
                }
            }
            for (End start : inner.keySet()) {
                if (walked.contains(start)) continue;
                loops++;
                End at = start;
                while (walked.add(at)) {
                    End across = new End('i', at.number() == x ? y : x, at.port());
                    walked.add(across);
                    at = inner.get(across);
                }
            }
        }

        /** Steps; what[0]: how many, what[1]: the most nodes. */
        int[] steps(int order, int most, int seed) {
            int x = seed;
            int peak = kinds.size();
            int n = 0;
            for (; n < most; n++) {
                List<Integer> ready = ready();
                if (ready.isEmpty()) break;
                int k = order == 0 ? 0 : ready.size() - 1;
                if (order == 2) {
                    x = x * 1103515245 + 12345;
                    k = (x >>> 16) % ready.size();
                }
                reduce(ready.get(k));
                peak = Math.max(peak, kinds.size());
            }
            return new int[] {n, peak};
        }

        int round() {
            int n = 0;
            for (Map.Entry<Integer, Integer> e : pairs().entrySet()) {
                if (can(e.getKey(), e.getValue())) {
                    reduce(e.getKey());
                    n++;
                }
            }
            return n;
        }

        List<String> seen(List<int[]> met) {
            List<String> told = new ArrayList<>();
            List<Integer> order = new ArrayList<>();
            for (int r : roots) {
                told.add("from root " + r);
                see(links.get(new End('r', r, 0)), order, told, met);
            }
            return told;
        }

        private void see(End e, List<Integer> order, List<String> told, List<int[]> met) {
            if (e.sort() == 'r') {
                told.add("root " + e.number());
            } else if (order.contains(e.number())) {
                told.add("again " + order.indexOf(e.number()) + " by " + e.port());
            } else {
                order.add(e.number());
                met.add(new int[] {e.number(), e.port()});
                int kind = kinds.get(e.number());
                told.add("new by " + e.port() + " of kind " + kind);
                for (int p = 0; p < 3 && kind != 0; p++) {
                    if (p != e.port()) see(links.get(new End('n', e.number(), p)), order, told, met);
                }
            }
        }

        int readNumber(End e) {
            if (!e.isHead() || kinds.get(e.number()) == 2) return -2;
            if (kinds.get(e.number()) == 0) return 0;
            End first = links.get(new End('n', e.number(), 1));
            if (!first.isHead() || kinds.get(first.number()) != 0) return -2;
            int rest = readNumber(links.get(new End('n', e.number(), 2)));
            return rest < 0 ? -2 : rest + 1;
        }

        List<Integer> readList(End e) {
            if (!e.isHead() || kinds.get(e.number()) == 2) return null;
            List<Integer> all = new ArrayList<>();
            if (kinds.get(e.number()) == 0) return all;
            int first = readNumber(links.get(new End('n', e.number(), 1)));
            List<Integer> rest = readList(links.get(new End('n', e.number(), 2)));
            if (first < 0 || rest == null) return null;
            all.add(first);
            all.addAll(rest);
            return all;
        }

        void replaceRoot(int root, End by) {
            End to = links.remove(new End('r', root, 0));
            roots.remove(root);
            tie(to, by);
        }
    }

    record Token(String text, int place) {}

    /** A text read by the words of its grammar: tokens are cut first, faults are thrown. */
    static final class Text {
        final List<Token> tokens = new ArrayList<>();
        final int length;
        final State net = new State();
        final Map<String, List<End>> names = new HashMap<>();
        final List<String> nameOrder = new ArrayList<>();
        int at;
        int wires;

        Text(String s) {
            length = s.length();
            int i = 0;
            while (i < s.length()) {
                char c = s.charAt(i);
                int j = i + 1;
                if (c == ' ' || c == '\n') {
                    i++;
                    continue;
                }
                if (c >= 'a' && c <= 'z') while (j < s.length() && s.charAt(j) >= 'a' && s.charAt(j) <= 'z') j++;
                if (c >= '0' && c <= '9') while (j < s.length() && s.charAt(j) >= '0' && s.charAt(j) <= '9') j++;
                String text = s.substring(i, j);
                boolean good = text.matches("[a-z]{1,5}|memory|[0-9]{1,3}|[;~*#()\\[\\]<>]");
                tokens.add(new Token(good ? text : "?", i));
                if (!good) break;
                i = j;
            }
            tokens.add(new Token("", s.length()));
        }

        Token peek() {
            return tokens.get(at);
        }

        Token take() {
            return tokens.get(at++);
        }

        void take(String text) {
            Token t = take();
            if (!t.text().equals(text)) throw new Fault(t.place(), 1);
        }

        int takeNumber(int least, int most) {
            Token t = take();
            if (!t.text().matches("[0-9]+")) throw new Fault(t.place(), 1);
            int n = Integer.parseInt(t.text());
            if (n < least || n > most) throw new Fault(t.place(), 3);
            return n;
        }

        State read() {
            if (peek().text().equals("memory")) {
                take();
                net.memory = takeNumber(8, 300);
                take(";");
            }
            while (!peek().text().isEmpty()) {
                End left = tree(0);
                take("~");
                End right = tree(0);
                take(";");
                net.tie(left, right);
            }
            int single = 0;
            for (List<End> stands : names.values()) if (stands.size() == 1) single++;
            if (single > 16) throw new Fault(length, 6);
            for (String name : nameOrder) {
                List<End> stands = names.get(name);
                End first = net.links.remove(stands.get(0));
                if (stands.size() == 1) {
                    net.roots.add(net.rootsEver);
                    net.tie(new End('r', net.rootsEver++, 0), first);
                } else {
                    End second = net.links.remove(stands.get(1));
                    if (first.equals(stands.get(1))) net.loops++;
                    else net.tie(first, second);
                }
            }
            return net;
        }

        End tree(int depth) {
            Token t = take();
            switch (t.text()) {
                case "*":
                    needRoom(1, t);
                    return net.head(net.make(0));
                case "(":
                case "[":
                    if (depth == 20) throw new Fault(t.place(), 4);
                    needRoom(1, t);
                    int n = net.make(t.text().equals("(") ? 1 : 2);
                    net.tie(new End('n', n, 1), tree(depth + 1));
                    net.tie(new End('n', n, 2), tree(depth + 1));
                    take(t.text().equals("(") ? ")" : "]");
                    return net.head(n);
                case "#":
                    int number = takeNumber(0, 20);
                    needRoom(2 * number + 1, t);
                    return net.numberTree(number);
                case "<":
                    return list(t);
                default:
                    if (!t.text().matches("[a-z]{1,5}")) throw new Fault(t.place(), 1);
                    return name(t);
            }
        }

        End list(Token t) {
            List<Integer> numbers = new ArrayList<>();
            int size = 1;
            while (peek().text().matches("[0-9]+")) {
                int place = peek().place();
                int n = takeNumber(0, 9);
                if (numbers.size() == 10) throw new Fault(place, 4);
                numbers.add(n);
                size += 2 * n + 2;
            }
            take(">");
            needRoom(size, t);
            return net.listTree(numbers);
        }

        End name(Token t) {
            if (!names.containsKey(t.text())) {
                names.put(t.text(), new ArrayList<>());
                nameOrder.add(t.text());
            }
            List<End> stands = names.get(t.text());
            if (stands.size() == 2) throw new Fault(t.place(), 2);
            End wire = new End('w', wires++, 0);
            stands.add(wire);
            return wire;
        }

        void needRoom(int more, Token t) {
            if (!net.room(more)) throw new Fault(t.place(), 5);
        }
    }

    private final StringBuilder tape = new StringBuilder();
    private State now = new State();
    private final State[] images = new State[2];
    private final List<State> past = new ArrayList<>();

    int feed(int a, int b, int c, int d, int e) {
        if (tape.length() > 480) return NONE;
        for (int four : new int[] {a, b, c, d, e}) {
            for (int i = 3; i >= 0; i--) tape.append((char) ((four >> (8 * i)) & 255));
        }
        return tape.length();
    }

    int net(int n) {
        if (n < 0 || n > tape.length()) return NONE;
        String text = tape.substring(0, n);
        tape.setLength(0);
        try {
            now = new Text(text).read();
        } catch (Fault f) {
            return -2 - (8 * f.place + f.kind);
        }
        images[0] = null;
        images[1] = null;
        past.clear();
        return now.kinds.size();
    }

    int count(int what) {
        int[] all = {now.memory, now.kinds.size(), now.made, now.freedEver, now.pairs().size(), now.ready().size(),
            now.roots.size(), now.rootsEver, now.loops, now.freed.size(), now.given - 1,
            (images[0] == null ? 0 : 1) + (images[1] == null ? 0 : 1), past.size(), tape.length()};
        return what < 0 || what >= all.length ? NONE : all[what];
    }

    int rule(int rule) {
        return rule < 0 || rule > 5 ? NONE : now.rules[rule];
    }

    int kind(int node) {
        return now.kinds.getOrDefault(node, NONE);
    }

    int link(int node, int port) {
        End to = port < 0 || port > 2 ? null : now.links.get(new End('n', node, port));
        return to == null ? NONE : to.told();
    }

    int root(int root) {
        End to = now.links.get(new End('r', root, 0));
        return to == null ? NONE : to.told();
    }

    int rootAt(int i) {
        List<Integer> all = new ArrayList<>(now.roots);
        return i < 0 || i >= all.size() ? NONE : all.get(i);
    }

    int pair(int k, int what) {
        TreeMap<Integer, Integer> pairs = now.pairs();
        List<Integer> xs = new ArrayList<>(pairs.keySet());
        if (k < 0 || k >= xs.size() || what < 0 || what > 3) return NONE;
        int x = xs.get(k);
        int y = pairs.get(x);
        return new int[] {x, y, now.ruleOf(x, y), now.can(x, y) ? 1 : 0}[what];
    }

    int next(int k) {
        List<Integer> all = new ArrayList<>();
        for (int i = now.freed.size() - 1; i >= 0; i--) all.add(now.freed.get(i));
        for (int i = now.given; i < now.memory; i++) all.add(i);
        return k < 0 || k >= all.size() ? NONE : all.get(k);
    }

    int number(int root) {
        if (!now.roots.contains(root)) throw new NoSuchElementException();
        return now.readNumber(now.links.get(new End('r', root, 0)));
    }

    int list(int root, int i) {
        if (!now.roots.contains(root)) throw new NoSuchElementException();
        List<Integer> all = now.readList(now.links.get(new End('r', root, 0)));
        if (all == null) return -2;
        if (i == NONE) return all.size();
        return i < 0 || i >= all.size() ? -2 : all.get(i);
    }

    int seen() {
        List<int[]> met = new ArrayList<>();
        now.seen(met);
        return met.size();
    }

    int met(int i, int what) {
        List<int[]> met = new ArrayList<>();
        now.seen(met);
        return i < 0 || i >= met.size() || what < 0 || what > 1 ? NONE : met.get(i)[what];
    }

    private static boolean wrongSteps(int order, int most) {
        return order < 0 || order > 2 || most < 0 || most > 9999;
    }

    private void keep() {
        past.add(now.copy());
        if (past.size() > 12) past.remove(0);
    }

    int run(int order, int most, int seed) {
        if (wrongSteps(order, most)) return NONE;
        keep();
        return now.steps(order, most, seed)[0];
    }

    int round() {
        keep();
        return now.round();
    }

    int reduce(int x) {
        if (!now.ready().contains(x)) return NONE;
        keep();
        return now.reduce(x);
    }

    int tried(int order, int most, int seed, int what) {
        if (wrongSteps(order, most) || what < 0 || what > 2) return NONE;
        State s = now.copy();
        int[] went = s.steps(order, most, seed);
        return what == 2 ? s.pairs().size() : went[what];
    }

    int rounds() {
        State s = now.copy();
        int n = 0;
        while (s.round() > 0) if (++n > 500) return -2;
        return n;
    }

    int alike(int order, int other, int most, int s) {
        if (wrongSteps(order, most) || wrongSteps(other, most)) return NONE;
        State a = now.copy();
        State b = now.copy();
        a.steps(order, most, s);
        b.steps(other, most, s);
        if (!a.ready().isEmpty() || !b.ready().isEmpty()) return -2;
        return a.seen(new ArrayList<>()).equals(b.seen(new ArrayList<>())) ? 1 : 0;
    }

    int likeImage(int k) {
        if (k < 0 || k > 1 || images[k] == null) return NONE;
        return now.seen(new ArrayList<>()).equals(images[k].seen(new ArrayList<>())) ? 1 : 0;
    }

    int put(int root, int number) {
        if (!now.roots.contains(root) || number < 0 || number > 20 || !now.room(2 * number + 1)) return NONE;
        keep();
        now.replaceRoot(root, now.numberTree(number));
        return now.kinds.size();
    }

    private int branch(int root, int kind) {
        if (!now.roots.contains(root) || !now.room(1) || now.rootsEver > 14) return NONE;
        keep();
        int n = now.make(kind);
        now.replaceRoot(root, now.head(n));
        int first = now.rootsEver;
        for (int p = 1; p <= 2; p++) {
            now.roots.add(now.rootsEver);
            now.tie(new End('r', now.rootsEver++, 0), new End('n', n, p));
        }
        return first;
    }

    int split(int root) {
        return branch(root, 1);
    }

    int twice(int root) {
        return branch(root, 2);
    }

    int drop(int root) {
        if (!now.roots.contains(root) || !now.room(1)) return NONE;
        keep();
        now.replaceRoot(root, now.head(now.make(0)));
        return now.kinds.size();
    }

    int join(int root, int other) {
        if (root == other || !now.roots.contains(root) || !now.roots.contains(other)) return NONE;
        keep();
        End a = now.links.remove(new End('r', root, 0));
        End b = now.links.remove(new End('r', other, 0));
        now.roots.remove(root);
        now.roots.remove(other);
        if (a.equals(new End('r', other, 0))) now.loops++;
        else now.tie(a, b);
        return now.roots.size();
    }

    int undo() {
        if (past.isEmpty()) return NONE;
        now = past.remove(past.size() - 1);
        return past.size();
    }

    boolean image(int k, boolean back) {
        if (k < 0 || k > 1 || back && images[k] == null) return false;
        if (back) {
            now = images[k].copy();
            past.clear();
        } else {
            images[k] = now.copy();
        }
        return true;
    }
}
