import java.util.Arrays;
import java.util.NoSuchElementException;

/** A machine of interaction combinators; the promises stand in the document DOC.md. */
public final class CombinatorRing {
    public static final int NONE = -1;

    /** The answer where a call is sound, but what it asks for isn't there. */
    private static final int WITHOUT = -2;

    private static final int ERASER = 0;
    private static final int PAIRER = 1;
    private static final int DOUBLER = 2;

    private static final int RULES = 6;
    private static final int GROWING_RULE = 5;
    private static final int GROWTH = 2;

    private static final int LEAST_MEMORY = 8;
    private static final int USUAL_MEMORY = 200;
    private static final int MOST_MEMORY = 300;
    private static final int NODE_PORTS = 3 * MOST_MEMORY;

    // Places in the row of links: ports of nodes, then roots (as the document tells them), then wires.
    private static final int ROOT = 1000;
    private static final int MOST_ROOTS = 16;
    private static final int WIRE = ROOT + MOST_ROOTS;
    private static final int PAIR_WIRES = 4;
    // On the tape two names never touch, so not more than every second byte begins one.
    private static final int TEXT_WIRES = 250;

    private static final int TAPE_BYTES = 500;
    private static final int FED_BYTES = 20;

    private static final int MOST_NUMBER = 20;
    private static final int MOST_DIGIT = 9;
    private static final int MOST_LISTED = 10;
    private static final int MOST_DEPTH = 20;

    private static final int ORDERS = 3;
    private static final int GREATEST_FIRST = 1;
    private static final int DRAWN = 2;
    private static final int MOST_STEPS = 9999;
    private static final int MOST_ROUNDS = 500;

    private static final int IMAGES = 2;
    private static final int PAST = 12;

    private final int[] tape = new int[TAPE_BYTES];
    private int tapeLength;

    private final Net current = new Net(PAIR_WIRES);
    /** Where steps are taken in thought, so that the net itself stays. */
    private final Net thought = new Net(PAIR_WIRES);
    private final TextReader reader = new TextReader();
    private final Sight sight = new Sight();
    private final Sight otherSight = new Sight();

    private final Net[] images = new Net[IMAGES];
    private final boolean[] holds = new boolean[IMAGES];

    // A ring: the oldest state makes room for the newest.
    private final Net[] past = new Net[PAST];
    private int pastFirst;
    private int pastCount;

    public CombinatorRing() {
        tapeLength = 0;
        pastFirst = 0;
        pastCount = 0;
    }

    public int feed(int a, int b, int c, int d, int e) {
        if (tapeLength + FED_BYTES > TAPE_BYTES) {
            return NONE;
        }
        feedBytes(a);
        feedBytes(b);
        feedBytes(c);
        feedBytes(d);
        feedBytes(e);
        return tapeLength;
    }

    public int net(int n) {
        if (n < 0 || n > tapeLength) {
            return NONE;
        }
        tapeLength = 0;
        int fault = reader.read(tape, n);
        if (fault != TextReader.FINE) {
            return fault;
        }
        current.become(reader.net);
        forgetImages();
        forgetPast();
        return current.nodes;
    }

    public int count(int what) {
        switch (what) {
            case 0: return current.memory;
            case 1: return current.nodes;
            case 2: return current.made;
            case 3: return current.freedEver;
            case 4: return current.pairs.size(true);
            case 5: return current.readyPairs();
            case 6: return current.rootsThere();
            case 7: return current.rootsEver;
            case 8: return current.loops;
            case 9: return current.freedCount;
            case 10: return current.given - 1;
            case 11: return imagesHeld();
            case 12: return pastCount;
            case 13: return tapeLength;
            default: return NONE;
        }
    }

    public int rule(int rule) {
        return rule >= 0 && rule < RULES ? current.ruleCounts[rule] : NONE;
    }

    // ---- the net

    public int kind(int node) {
        return current.kindOf(node);
    }

    public int link(int node, int port) {
        int kind = current.kindOf(node);
        if (kind == NONE || port < 0 || port > (kind == ERASER ? 0 : 2)) {
            return NONE;
        }
        return current.at(3 * node + port);
    }

    public int root(int root) {
        return current.hasRoot(root) ? current.at(ROOT + root) : NONE;
    }

    public int rootAt(int i) {
        int before = 0;
        for (int root = 0; root < MOST_ROOTS; root++) {
            if (current.hasRoot(root)) {
                if (before == i) {
                    return root;
                }
                before++;
            }
        }
        return NONE;
    }

    public int pair(int k, int what) {
        int x = current.pairs.at(k, true);
        if (x == NONE) {
            return NONE;
        }
        switch (what) {
            case 0: return x;
            case 1: return current.partnerOf(x);
            case 2: return current.ruleOf(x);
            case 3: return current.canGo(x) ? 1 : 0;
            default: return NONE;
        }
    }

    public int next(int k) {
        return current.givenNext(k);
    }

    public int number(int root) throws NoSuchElementException {
        if (!current.hasRoot(root)) {
            throw new NoSuchElementException("there is no such root");
        }
        return current.numberAt(ROOT + root);
    }

    public int list(int root, int i) throws NoSuchElementException {
        if (!current.hasRoot(root)) {
            throw new NoSuchElementException("there is no such root");
        }
        return current.listAt(ROOT + root, i);
    }

    public int seen() {
        sight.look(current);
        return sight.metCount;
    }

    public int met(int i, int what) {
        sight.look(current);
        if (i < 0 || i >= sight.metCount) {
            return NONE;
        }
        switch (what) {
            case 0: return sight.metNodes[i];
            case 1: return sight.metPorts[i];
            default: return NONE;
        }
    }

    // ---- steps

    public int run(int order, int most, int seed) {
        if (!isOrder(order) || !isStepLimit(most)) {
            return NONE;
        }
        remember();
        return current.goOn(order, most, seed);
    }

    public int round() {
        remember();
        return current.goRound();
    }

    public int reduce(int x) {
        if (!current.pairs.has(x) || !current.canGo(x)) {
            return NONE;
        }
        remember();
        return current.rewrite(x);
    }

    public int tried(int order, int most, int seed, int what) {
        if (!isOrder(order) || !isStepLimit(most) || what < 0 || what > 2) {
            return NONE;
        }
        thought.become(current);
        int steps = thought.goOn(order, most, seed);
        switch (what) {
            case 0: return steps;
            case 1: return thought.peak;
            default: return thought.pairs.size(true);
        }
    }

    public int rounds() {
        thought.become(current);
        for (int rounds = 0; rounds <= MOST_ROUNDS; rounds++) {
            if (thought.goRound() == 0) {
                return rounds;
            }
        }
        return WITHOUT;
    }

    public int alike(int order, int other, int most, int s) {
        if (!isOrder(order) || !isOrder(other) || !isStepLimit(most)) {
            return NONE;
        }
        if (!looksAtEnd(order, most, s, sight) || !looksAtEnd(other, most, s, otherSight)) {
            return WITHOUT;
        }
        return sight.isLike(otherSight) ? 1 : 0;
    }

    public int likeImage(int k) {
        Net laid = imageAt(k);
        if (laid == null) {
            return NONE;
        }
        sight.look(current);
        otherSight.look(laid);
        return sight.isLike(otherSight) ? 1 : 0;
    }

    // ---- by hand

    public int put(int root, int number) {
        if (!current.hasRoot(root) || number < 0 || number > MOST_NUMBER
                || !current.hasRoom(Net.numberSize(number))) {
            return NONE;
        }
        remember();
        current.endRoot(root, current.makeNumber(number));
        return current.nodes;
    }

    public int split(int root) {
        return branchRoot(root, PAIRER);
    }

    public int twice(int root) {
        return branchRoot(root, DOUBLER);
    }

    public int drop(int root) {
        if (!current.hasRoot(root) || !current.hasRoom(1)) {
            return NONE;
        }
        remember();
        current.endRoot(root, 3 * current.make(ERASER));
        return current.nodes;
    }

    public int join(int root, int other) {
        if (root == other || !current.hasRoot(root) || !current.hasRoot(other)) {
            return NONE;
        }
        remember();
        current.joinRoots(root, other);
        return current.rootsThere();
    }

    public int undo() {
        if (pastCount == 0) {
            return NONE;
        }
        pastCount--;
        Net latest = past[(pastFirst + pastCount) % PAST];
        if (latest != null) {
            current.become(latest);
        }
        return pastCount;
    }

    public boolean image(int k, boolean back) {
        if (k < 0 || k >= IMAGES) {
            return false;
        }
        if (back) {
            return layBack(k);
        }
        if (images[k] == null) {
            images[k] = new Net(0);
        }
        images[k].become(current);
        holds[k] = true;
        return true;
    }

    private void feedBytes(int four) {
        for (int shift = 24; shift >= 0; shift -= 8) {
            if (tapeLength < TAPE_BYTES) {
                tape[tapeLength] = (four >>> shift) & 255;
                tapeLength++;
            }
        }
    }

    private static boolean isOrder(int order) {
        return order >= 0 && order < ORDERS;
    }

    private static boolean isStepLimit(int most) {
        return most >= 0 && most <= MOST_STEPS;
    }

    /** False if the steps leave a pair that could still go: such nets aren't compared. */
    private boolean looksAtEnd(int order, int most, int seed, Sight eyes) {
        thought.become(current);
        thought.goOn(order, most, seed);
        if (thought.readyPairs() > 0) {
            return false;
        }
        eyes.look(thought);
        return true;
    }

    private int branchRoot(int root, int kind) {
        if (!current.hasRoot(root) || !current.hasRoom(1) || current.rootsEver + 2 > MOST_ROOTS) {
            return NONE;
        }
        remember();
        int head = 3 * current.make(kind);
        current.endRoot(root, head);
        int first = current.makeRoot(head + 1);
        current.makeRoot(head + 2);
        return first;
    }

    private void remember() {
        if (pastCount == PAST) {
            pastFirst = (pastFirst + 1) % PAST;
            pastCount--;
        }
        int slot = (pastFirst + pastCount) % PAST;
        // Made when first needed and kept: most objects take little back.
        if (past[slot] == null) {
            past[slot] = new Net(0);
        }
        past[slot].become(current);
        pastCount++;
    }

    private void forgetPast() {
        pastFirst = 0;
        pastCount = 0;
    }

    private void forgetImages() {
        for (int k = 0; k < IMAGES; k++) {
            holds[k] = false;
        }
    }

    private int imagesHeld() {
        int held = 0;
        for (int k = 0; k < IMAGES; k++) {
            if (holds[k]) {
                held++;
            }
        }
        return held;
    }

    /** The net of an image; null if nothing is in it. */
    private Net imageAt(int k) {
        return k >= 0 && k < IMAGES && holds[k] ? images[k] : null;
    }

    private boolean layBack(int k) {
        Net laid = imageAt(k);
        if (laid == null) {
            return false;
        }
        current.become(laid);
        forgetPast();
        return true;
    }

    /** Pairs by their lesser nodes, as bits, so that a step needn't look through all nodes. */
    private static final class Pairs {
        private static final int WORDS = (MOST_MEMORY + 63) / 64;

        private final long[] steady = new long[WORDS];
        private final long[] growing = new long[WORDS];

        void clear() {
            Arrays.fill(steady, 0L);
            Arrays.fill(growing, 0L);
        }

        void become(Pairs other) {
            System.arraycopy(other.steady, 0, steady, 0, WORDS);
            System.arraycopy(other.growing, 0, growing, 0, WORDS);
        }

        void add(int x, boolean grows) {
            if (x < 0 || x >= MOST_MEMORY) {
                return;
            }
            long bit = 1L << (x & 63);
            if (grows) {
                growing[x >> 6] |= bit;
            } else {
                steady[x >> 6] |= bit;
            }
        }

        void remove(int x) {
            if (x < 0 || x >= MOST_MEMORY) {
                return;
            }
            long others = ~(1L << (x & 63));
            steady[x >> 6] &= others;
            growing[x >> 6] &= others;
        }

        boolean has(int x) {
            return x >= 0 && x < MOST_MEMORY && ((word(x >> 6, true) >>> (x & 63)) & 1L) != 0;
        }

        /** How many, of all, or of those alone that need no more room than they free. */
        int size(boolean all) {
            int size = 0;
            for (int w = 0; w < WORDS; w++) {
                size += Long.bitCount(word(w, all));
            }
            return size;
        }

        /** The k-th of these; NONE if there are not so many. */
        int at(int k, boolean all) {
            int left = k;
            for (int w = 0; w < WORDS && left >= 0; w++) {
                long bits = word(w, all);
                int here = Long.bitCount(bits);
                if (left < here) {
                    return 64 * w + placeOfBit(bits, left);
                }
                left -= here;
            }
            return NONE;
        }

        private long word(int w, boolean all) {
            return all ? steady[w] | growing[w] : steady[w];
        }

        private static int placeOfBit(long bits, int k) {
            long rest = bits;
            for (int i = 0; i < k; i++) {
                rest &= rest - 1;
            }
            return Long.bitCount((rest & -rest) - 1);
        }
    }

    /** Nodes, their links, memory, roots, counts: all that an image or a step back brings again. */
    private static final class Net {
        private final int[] kinds = new int[MOST_MEMORY];
        /** To what each place is linked; a root that isn't there: NONE. */
        private final int[] links;
        private final int[] freed = new int[MOST_MEMORY];
        private final int[] ruleCounts = new int[RULES];
        private final Pairs pairs = new Pairs();
        private final Pairs ahead = new Pairs();
        private int memory;
        private int nodes;
        private int made;
        private int freedEver;
        private int freedCount;
        private int given;
        private int rootsEver;
        private int loops;
        /** The most nodes there were in the latest steps; no part of the state. */
        private int peak;

        Net(int wires) {
            links = new int[WIRE + Math.max(0, wires)];
            clear(USUAL_MEMORY);
        }

        void clear(int room) {
            Arrays.fill(kinds, NONE);
            Arrays.fill(links, NONE);
            Arrays.fill(ruleCounts, 0);
            pairs.clear();
            memory = Math.max(0, Math.min(room, MOST_MEMORY));
            nodes = 0;
            made = 0;
            freedEver = 0;
            freedCount = 0;
            given = 0;
            rootsEver = 0;
            loops = 0;
            peak = 0;
        }

        void become(Net other) {
            System.arraycopy(other.kinds, 0, kinds, 0, MOST_MEMORY);
            // Wires hold nothing between calls.
            System.arraycopy(other.links, 0, links, 0, WIRE);
            System.arraycopy(other.freed, 0, freed, 0, MOST_MEMORY);
            System.arraycopy(other.ruleCounts, 0, ruleCounts, 0, RULES);
            pairs.become(other.pairs);
            memory = other.memory;
            nodes = other.nodes;
            made = other.made;
            freedEver = other.freedEver;
            freedCount = other.freedCount;
            given = other.given;
            rootsEver = other.rootsEver;
            loops = other.loops;
        }

        // ---- places and links

        int kindOf(int node) {
            return node >= 0 && node < MOST_MEMORY ? kinds[node] : NONE;
        }

        int at(int place) {
            return place >= 0 && place < links.length ? links[place] : NONE;
        }

        static boolean isHead(int place) {
            return place >= 0 && place < NODE_PORTS && place % 3 == 0;
        }

        /** Links two places of which is known that they are no pair. */
        void tie(int a, int b) {
            if (a >= 0 && b >= 0 && a < links.length && b < links.length) {
                links[a] = b;
                links[b] = a;
            }
        }

        void connect(int a, int b) {
            tie(a, b);
            if (isHead(a) && isHead(b)) {
                pairs.add(Math.min(a, b) / 3, kinds[a / 3] + kinds[b / 3] == PAIRER + DOUBLER);
            }
        }

        /** What was linked to one place is now linked to another one. */
        void move(int from, int to) {
            connect(at(from), to);
        }

        /** What two places were linked to is linked; a loop if that was each other. */
        void splice(int p, int q) {
            if (at(p) == q) {
                loops++;
            } else {
                connect(at(p), at(q));
            }
        }

        // ---- memory

        boolean hasRoom(int more) {
            return nodes + more <= memory;
        }

        int make(int kind) {
            int node = givenNext(0);
            if (node == NONE) {
                return NONE;
            }
            if (freedCount > 0) {
                freedCount--;
            } else {
                given++;
            }
            kinds[node] = kind;
            nodes++;
            made++;
            return node;
        }

        void free(int node) {
            if (kindOf(node) == NONE || freedCount >= MOST_MEMORY) {
                return;
            }
            kinds[node] = NONE;
            freed[freedCount] = node;
            freedCount++;
            freedEver++;
            nodes--;
        }

        int givenNext(int k) {
            if (k < 0 || k >= memory - nodes) {
                return NONE;
            }
            return k < freedCount ? freed[freedCount - 1 - k] : given + (k - freedCount);
        }

        // ---- roots

        boolean hasRoot(int root) {
            return root >= 0 && root < MOST_ROOTS && links[ROOT + root] != NONE;
        }

        int rootsThere() {
            int there = 0;
            for (int root = 0; root < MOST_ROOTS; root++) {
                if (hasRoot(root)) {
                    there++;
                }
            }
            return there;
        }

        int makeRoot(int place) {
            if (rootsEver >= MOST_ROOTS) {
                return NONE;
            }
            int root = rootsEver;
            rootsEver++;
            connect(ROOT + root, place);
            return root;
        }

        /** Puts a place where a root was, which is gone then. */
        void endRoot(int root, int place) {
            if (hasRoot(root)) {
                move(ROOT + root, place);
                links[ROOT + root] = NONE;
            }
        }

        void joinRoots(int root, int other) {
            if (hasRoot(root) && hasRoot(other)) {
                splice(ROOT + root, ROOT + other);
                links[ROOT + root] = NONE;
                links[ROOT + other] = NONE;
            }
        }

        // ---- numbers and lists

        static int numberSize(int number) {
            return 2 * number + 1;
        }

        /** Makes the tree of a number: its head. */
        int makeNumber(int number) {
            int top = NONE;
            int open = NONE;
            for (int i = 0; i < number; i++) {
                int head = 3 * make(PAIRER);
                tie(open, head);
                tie(head + 1, 3 * make(ERASER));
                open = head + 2;
                top = i == 0 ? head : top;
            }
            int end = 3 * make(ERASER);
            tie(open, end);
            return number > 0 ? top : end;
        }

        /** Makes the tree of the list of the first so many numbers: its head. */
        int makeList(int[] numbers, int length) {
            int top = NONE;
            int open = NONE;
            for (int i = 0; i < length && i < numbers.length; i++) {
                int head = 3 * make(PAIRER);
                tie(open, head);
                tie(head + 1, makeNumber(numbers[i]));
                open = head + 2;
                top = i == 0 ? head : top;
            }
            int end = 3 * make(ERASER);
            tie(open, end);
            return length > 0 ? top : end;
        }

        /** The number whose tree hangs at a place; WITHOUT if none does. */
        int numberAt(int place) {
            int tree = at(place);
            for (int n = 0; n < MOST_MEMORY; n++) {
                int kind = kindByHead(tree);
                if (kind == ERASER) {
                    return n;
                }
                if (kind != PAIRER || kindByHead(at(tree + 1)) != ERASER) {
                    return WITHOUT;
                }
                tree = at(tree + 2);
            }
            return WITHOUT;
        }

        /** The i-th number of the list that hangs at a place, for NONE its length; WITHOUT without. */
        int listAt(int place, int i) {
            int tree = at(place);
            int wanted = WITHOUT;
            for (int length = 0; length < MOST_MEMORY; length++) {
                int kind = kindByHead(tree);
                if (kind == ERASER) {
                    return i == NONE ? length : wanted;
                }
                int number = kind == PAIRER ? numberAt(tree + 1) : WITHOUT;
                if (number == WITHOUT) {
                    return WITHOUT;
                }
                wanted = length == i ? number : wanted;
                tree = at(tree + 2);
            }
            return WITHOUT;
        }

        private int kindByHead(int place) {
            return isHead(place) ? kindOf(place / 3) : NONE;
        }

        // ---- pairs and steps

        int partnerOf(int x) {
            int head = at(3 * x);
            return isHead(head) ? head / 3 : NONE;
        }

        int ruleOf(int x) {
            int kind = kindOf(x);
            int other = kindOf(partnerOf(x));
            return kind == other ? kind : kind + other + 2;
        }

        boolean canGo(int x) {
            return ruleOf(x) != GROWING_RULE || hasRoom(GROWTH);
        }

        int readyPairs() {
            return pairs.size(hasRoom(GROWTH));
        }

        /** Reduces the pair of this lesser node, of which is known that it can go: its rule. */
        int rewrite(int x) {
            int y = partnerOf(x);
            int rule = ruleOf(x);
            int kindX = kindOf(x);
            int kindY = kindOf(y);
            pairs.remove(x);
            // Numbers are given again at once, so what was outside waits at wires.
            moveToWires(x, WIRE);
            moveToWires(y, WIRE + 2);
            free(x);
            free(y);
            if (kindX == kindY) {
                if (kindX != ERASER) {
                    splice(WIRE, WIRE + 2);
                    splice(WIRE + 1, WIRE + 3);
                }
            } else if (rule == GROWING_RULE) {
                commute(kindX == PAIRER ? WIRE : WIRE + 2, kindX == DOUBLER ? WIRE : WIRE + 2);
            } else {
                erase(kindX == ERASER ? WIRE + 2 : WIRE);
            }
            if (rule >= 0 && rule < RULES) {
                ruleCounts[rule]++;
            }
            return rule;
        }

        private void moveToWires(int node, int wire) {
            if (kindOf(node) != ERASER) {
                move(3 * node + 1, wire);
                move(3 * node + 2, wire + 1);
            }
        }

        private void erase(int wire) {
            int first = make(ERASER);
            int second = make(ERASER);
            move(wire, 3 * first);
            move(wire + 1, 3 * second);
        }

        private void commute(int pairerWire, int doublerWire) {
            int d1 = 3 * make(DOUBLER);
            int d2 = 3 * make(DOUBLER);
            int p1 = 3 * make(PAIRER);
            int p2 = 3 * make(PAIRER);
            tie(d1 + 1, p1 + 1);
            tie(d1 + 2, p2 + 1);
            tie(d2 + 1, p1 + 2);
            tie(d2 + 2, p2 + 2);
            move(pairerWire, d1);
            move(pairerWire + 1, d2);
            move(doublerWire, p1);
            move(doublerWire + 1, p2);
        }

        /** Steps by an order, most at most: how many were. */
        int goOn(int order, int most, int seed) {
            int drawn = seed;
            peak = nodes;
            for (int steps = 0; steps < most; steps++) {
                int ready = readyPairs();
                if (ready <= 0) {
                    return steps;
                }
                int k = order == GREATEST_FIRST ? ready - 1 : 0;
                if (order == DRAWN) {
                    drawn = 1103515245 * drawn + 12345;
                    k = (drawn >>> 16) % ready;
                }
                rewrite(pairs.at(k, hasRoom(GROWTH)));
                peak = Math.max(peak, nodes);
            }
            return most;
        }

        /** A round: how many pairs went. */
        int goRound() {
            ahead.become(pairs);
            int size = ahead.size(true);
            int went = 0;
            for (int k = 0; k < size; k++) {
                int x = ahead.at(k, true);
                if (canGo(x)) {
                    rewrite(x);
                    went++;
                }
            }
            return went;
        }
    }

    /** What is seen from the roots of a net, told so that it doesn't hang on the nodes' numbers. */
    private static final class Sight {
        private static final int MOST_OPEN = 2 * MOST_MEMORY + 1;
        private static final int MOST_TOLD = 2 * MOST_ROOTS + 2 * MOST_MEMORY;

        // What is told of a link: a new node, a node met already, a root; or the root it goes out from.
        private static final int AGAIN = 10;
        private static final int FROM_ROOT = 2000;

        private final int[] metNodes = new int[MOST_MEMORY];
        private final int[] metPorts = new int[MOST_MEMORY];
        private final int[] metAs = new int[MOST_MEMORY];
        private int metCount;
        private final int[] told = new int[MOST_TOLD];
        private int toldCount;
        private final int[] open = new int[MOST_OPEN];
        private int openCount;

        void look(Net net) {
            Arrays.fill(metAs, NONE);
            metCount = 0;
            toldCount = 0;
            for (int root = 0; root < MOST_ROOTS; root++) {
                if (net.hasRoot(root)) {
                    tell(FROM_ROOT + root);
                    lookFrom(net, ROOT + root);
                }
            }
        }

        boolean isLike(Sight other) {
            if (toldCount != other.toldCount) {
                return false;
            }
            for (int i = 0; i < toldCount; i++) {
                if (told[i] != other.told[i]) {
                    return false;
                }
            }
            return true;
        }

        private void lookFrom(Net net, int place) {
            openCount = 0;
            leaveOpen(place);
            for (int i = 0; i < MOST_TOLD && openCount > 0; i++) {
                openCount--;
                come(net, net.at(open[openCount]));
            }
        }

        private void come(Net net, int place) {
            int node = place / 3;
            int kind = place < 0 ? NONE : net.kindOf(node);
            if (kind == NONE) {
                tell(place);
            } else if (metAs[node] != NONE) {
                tell(AGAIN + 3 * metAs[node] + place % 3);
            } else {
                meet(node, place % 3);
                tell(3 * (place % 3) + kind);
                if (kind != ERASER) {
                    leaveOthersOpen(node, place % 3);
                }
            }
        }

        private void meet(int node, int port) {
            if (metCount < MOST_MEMORY) {
                metAs[node] = metCount;
                metNodes[metCount] = node;
                metPorts[metCount] = port;
                metCount++;
            }
        }

        /** The lesser port comes last, as what is left last is looked at first. */
        private void leaveOthersOpen(int node, int port) {
            for (int other = 2; other >= 0; other--) {
                if (other != port) {
                    leaveOpen(3 * node + other);
                }
            }
        }

        private void leaveOpen(int place) {
            if (openCount < MOST_OPEN) {
                open[openCount] = place;
                openCount++;
            }
        }

        private void tell(int what) {
            if (toldCount < MOST_TOLD) {
                told[toldCount] = what;
                toldCount++;
            }
        }
    }

    /** Reads a text into a net of its own; behind a fault every token is BAD, so that reading ends. */
    private static final class TextReader {
        static final int FINE = 0;

        // Tokens; those of one sign are that sign itself.
        private static final int END = 0;
        private static final int BAD = 1;
        private static final int NAME = 2;
        private static final int NUMBER = 3;
        private static final int MEMORY = 4;

        private static final int NO_TEXT = 1;
        private static final int THIRD_NAME = 2;
        private static final int WRONG_NUMBER = 3;
        private static final int TOO_MANY = 4;
        private static final int FULL = 5;
        private static final int TOO_MANY_ROOTS = 6;

        private static final int NAME_LETTERS = 5;
        private static final int NUMBER_DIGITS = 3;
        private static final String MEMORY_WORD = "memory";
        private static final String SIGNS = ";~*#()[]<>";

        private final Net net = new Net(TEXT_WIRES);
        private int[] bytes = new int[0];
        private int length;
        private int place;
        private int token;
        private int start;
        private int value;
        private int fault;

        private final int[] names = new int[TEXT_WIRES];
        private final int[] firstWires = new int[TEXT_WIRES];
        private final int[] secondWires = new int[TEXT_WIRES];
        private int nameCount;
        private int wireCount;
        private final int[] listed = new int[MOST_LISTED];

        /** FINE, or what the document answers of the first fault. */
        int read(int[] from, int n) {
            bytes = from;
            length = Math.min(n, from.length);
            place = 0;
            fault = FINE;
            nameCount = 0;
            wireCount = 0;
            net.clear(USUAL_MEMORY);
            advance();
            if (token == MEMORY) {
                readMemory();
            }
            for (int i = 0; i < TAPE_BYTES && token != END && fault == FINE; i++) {
                int left = readTree(0);
                expect('~');
                advance();
                net.connect(left, readTree(0));
                expect(';');
                advance();
            }
            if (fault == FINE) {
                endNames();
            }
            return fault;
        }

        private void refuse(int at, int kind) {
            if (fault == FINE) {
                fault = -2 - (8 * at + kind);
            }
        }

        private void readMemory() {
            expect(NUMBER);
            if (value < LEAST_MEMORY || value > MOST_MEMORY) {
                refuse(start, WRONG_NUMBER);
            }
            net.clear(value);
            expect(';');
            advance();
        }

        // ---- trees: each begins at its first token, ends at its last one, and answers its end

        private int readTree(int depth) {
            switch (token) {
                case NAME: return readName();
                case '*': return makeNode(ERASER);
                case '#': return readNumber();
                case '<': return readList();
                case '(':
                case '[': break;
                default:
                    refuse(start, NO_TEXT);
                    return NONE;
            }
            if (depth >= MOST_DEPTH) {
                refuse(start, TOO_MANY);
                return NONE;
            }
            int close = token == '(' ? ')' : ']';
            int head = makeNode(token == '(' ? PAIRER : DOUBLER);
            for (int port = 1; port <= 2 && fault == FINE; port++) {
                advance();
                net.connect(head + port, readTree(depth + 1));
            }
            expect(close);
            return head;
        }

        private int makeNode(int kind) {
            if (!net.hasRoom(1)) {
                refuse(start, FULL);
                return NONE;
            }
            return 3 * net.make(kind);
        }

        private int readNumber() {
            int first = start;
            expect(NUMBER);
            if (value > MOST_NUMBER) {
                refuse(start, WRONG_NUMBER);
            }
            if (!net.hasRoom(Net.numberSize(value))) {
                refuse(first, FULL);
            }
            return fault == FINE ? net.makeNumber(value) : NONE;
        }

        private int readList() {
            int first = start;
            int count = 0;
            int size = 1;
            advance();
            for (int i = 0; i <= MOST_LISTED && token == NUMBER; i++) {
                if (value > MOST_DIGIT) {
                    refuse(start, WRONG_NUMBER);
                } else if (count >= MOST_LISTED) {
                    refuse(start, TOO_MANY);
                } else {
                    listed[count] = value;
                    count++;
                    size += 1 + Net.numberSize(value);
                }
                advance();
            }
            if (token != '>') {
                refuse(start, NO_TEXT);
            }
            if (!net.hasRoom(size)) {
                refuse(first, FULL);
            }
            return fault == FINE ? net.makeList(listed, count) : NONE;
        }

        // ---- names: each place where one stands is a wire, till all are known

        private int readName() {
            int name = indexOfName(value);
            int wire = WIRE + wireCount;
            wireCount++;
            if (name >= TEXT_WIRES) {
                return NONE;
            }
            if (name == nameCount) {
                names[name] = value;
                firstWires[name] = wire;
                secondWires[name] = NONE;
                nameCount++;
            } else if (secondWires[name] == NONE) {
                secondWires[name] = wire;
            } else {
                refuse(start, THIRD_NAME);
            }
            return wire;
        }

        private int indexOfName(int wanted) {
            for (int i = 0; i < nameCount; i++) {
                if (names[i] == wanted) {
                    return i;
                }
            }
            return nameCount;
        }

        private void endNames() {
            int single = 0;
            for (int i = 0; i < nameCount; i++) {
                if (secondWires[i] == NONE) {
                    single++;
                }
            }
            if (single > MOST_ROOTS) {
                refuse(length, TOO_MANY_ROOTS);
                return;
            }
            for (int i = 0; i < nameCount; i++) {
                if (secondWires[i] == NONE) {
                    net.makeRoot(net.at(firstWires[i]));
                } else {
                    net.splice(firstWires[i], secondWires[i]);
                }
            }
        }

        // ---- tokens: one is read only when all is asked of the one ahead of it

        private void expect(int wanted) {
            advance();
            if (token != wanted) {
                refuse(start, NO_TEXT);
            }
        }

        private void advance() {
            token = BAD;
            if (fault != FINE) {
                return;
            }
            skipBlanks();
            start = place;
            int sign = byteAt(place);
            if (place >= length) {
                token = END;
            } else if (isLetter(sign)) {
                readWord();
            } else if (isDigit(sign)) {
                readDigits();
            } else if (sign < 128 && SIGNS.indexOf((char) sign) >= 0) {
                token = sign;
                place++;
            }
        }

        private void skipBlanks() {
            while (place < length && (byteAt(place) == ' ' || byteAt(place) == '\n')) {
                place++;
            }
        }

        private void readWord() {
            boolean isMemory = true;
            value = 0;
            while (place < length && isLetter(byteAt(place))) {
                int letter = place - start;
                isMemory = isMemory && letter < MEMORY_WORD.length()
                        && byteAt(place) == MEMORY_WORD.charAt(letter);
                value = 27 * value + byteAt(place) - 'a' + 1;
                place++;
            }
            if (place - start <= NAME_LETTERS) {
                token = NAME;
            } else if (isMemory && place - start == MEMORY_WORD.length()) {
                token = MEMORY;
            }
        }

        private void readDigits() {
            value = 0;
            while (place < length && isDigit(byteAt(place))) {
                value = 10 * value + byteAt(place) - '0';
                place++;
            }
            if (place - start <= NUMBER_DIGITS) {
                token = NUMBER;
            }
        }

        private int byteAt(int i) {
            return i >= 0 && i < length && i < bytes.length ? bytes[i] : NONE;
        }

        private static boolean isLetter(int sign) {
            return sign >= 'a' && sign <= 'z';
        }

        private static boolean isDigit(int sign) {
            return sign >= '0' && sign <= '9';
        }
    }
}
