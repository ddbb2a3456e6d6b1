/** The edges that the document names of pairs, rules, orders, sights and readings ('==== 2.'), a test each. */
public final class StepBoundaryTest {
    private static final int NONE = Boundary.NONE;
    private static final int LEAST = Boundary.LEAST;
    private static final int GREATEST = Boundary.GREATEST;

    public static void main(String[] args) throws Exception {
        Boundary.runAll(Tests.class, args, "Terms");
    }

    /** Each method here is one test; they run by their names. */
    private static final class Tests {
        // ---- pairs

        static void onlyHeadsMakeAPair() {
            at("A PAIR: two NODES whose HEADS are LINKED:");
            due("two heads", Boundary.of("*~*;").count(4), 1);
            due("a head at a port", Boundary.of("a~(* b);").count(4), 0);
            due("two ports", Boundary.of("r~(a b);s~(a c);").count(4), 0);
            due("a head at a root", Boundary.of("a~*;").count(4), 0);
            due("a head at its own port", Boundary.of("a~(a b);").count(4), 0);
            CombinatorRing x = Boundary.of("a~*;b~(c d);");
            x.join(0, 1);
            due("heads that join() links", x.count(4), 1);
        }

        static void xIsTheLesserNumberNotTheOlder() {
            at("X the one with the lesser number, Y the other one.");
            CombinatorRing x = Boundary.of("*~*;a~(b c);");
            x.reduce(0);
            x.drop(0);
            due("X is the newer one", x.pair(0, 0), 1);
            due("Y", x.pair(0, 1), 2);
            due("by Y it isn't told", x.reduce(2), NONE);
            due("by X it is", x.reduce(1), 3);
        }

        static void xIsFreedThenY() {
            at("To REDUCE it: X is FREED, then Y (Y's number is given first then);");
            CombinatorRing x = Boundary.of("a~(b c);*~a;d~e;");
            due("an eraser and a pairer", x.reduce(0), 3);
            due("the first eraser has Y's number", x.root(0), 3);
            due("the second one has X's", x.root(1), 0);
            x = Boundary.of("*~*;a~b;");
            x.reduce(0);
            due("Y's is next", x.next(0), 1);
            due("then X's", x.next(1), 0);
            x = Boundary.of("(a b)~(c d);*~*;");
            x.reduce(2);
            x.reduce(0);
            due("all that were freed", x.next(0) + 10 * x.next(1) + 100 * x.next(2) + 1000 * x.next(3), 2301);
        }

        static void whatIsLinkedWithinGoesOnThere() {
            at("(outside of both; what is LINKED from one of these PORTS to another one of them goes on there):");
            joined("(a a)~(b c);");
            joined("(b c)~(a a);");
            joined("[a b]~[c a];");
            joined("[b a]~[a c];");
            CombinatorRing x = Boundary.of("*~(a a);");
            x.reduce(0);
            due("two erasers meet", x.pair(0, 2), 0);
            x = Boundary.of("[a a]~*;");
            x.reduce(0);
            due("two erasers meet", x.pair(0, 2), 0);
        }

        private static void joined(String text) {
            CombinatorRing x = Boundary.of(text);
            x.reduce(0);
            due(text + " root 0", x.root(0), 1001);
            due(text + " root 1", x.root(1), 1000);
            due(text + " loops", x.count(8), 0);
        }

        static void whatIsLinkedWithinWhenItGrows() {
            at("(outside of both; what is LINKED from one of these PORTS to another one of them goes on there):");
            CombinatorRing x = Boundary.of("(a b)~[a b];");
            x.reduce(0);
            due("D1 meets P1", x.link(1, 0), 6);
            due("D2 meets P2", x.link(0, 0), 9);
            Boundary.linkedBothWays(x);
            x = Boundary.of("(a b)~[b a];");
            x.reduce(0);
            due("D1 meets P2", x.link(1, 0), 9);
            due("D2 meets P1", x.link(0, 0), 6);
            Boundary.linkedBothWays(x);
            x = Boundary.of("(a a)~[b b];");
            x.reduce(0);
            due("D1 meets D2", x.link(1, 0), 0);
            due("P1 meets P2", x.link(2, 0), 9);
            Boundary.linkedBothWays(x);
        }

        static void erasersLeaveNothing() {
            at("alike: ERASERS: nothing more.");
            CombinatorRing x = Boundary.of("*~*;");
            due("rule", x.reduce(0), 0);
            due("nodes", x.count(1), 0);
            due("made", x.count(2), 2);
            due("loops", x.count(8), 0);
        }

        static void othersAlikeLinkPort1ToPort1() {
            at("Others: what was at PORT 1 of X is LINKED to what was at PORT 1 of Y, likewise PORTS 2.");
            for (String text : new String[] {"(a b)~(c d);", "[a b]~[c d];"}) {
                CombinatorRing x = Boundary.of(text);
                x.reduce(0);
                due(text + " ports 1", x.root(0), 1002);
                due(text + " ports 2", x.root(1), 1003);
            }
        }

        static void linkedRoundToItselfIsALoop() {
            at("(What comes to be LINKED round to itself is a LOOP, and gone.)");
            loops("(a a)~(b b);", 1);
            loops("(a b)~(a b);", 2);
            loops("(a b)~(b a);", 1);
            loops("[a a]~[b b];", 1);
            loops("[a b]~[a c];c~b;", 2);
            loops("(a b)~(a c);", 1);
        }

        private static void loops(String text, int loops) {
            CombinatorRing x = Boundary.of(text);
            x.reduce(0);
            due(text + " loops", x.count(8), loops);
            due(text + " nodes", x.count(1), 0);
        }

        static void anEraserTurnsIntoTwo() {
            at("one an ERASER: two new ERASERS, the first one's HEAD is LINKED to what was at PORT 1 of the other one,"
                + " the second one's to what was at PORT 2.");
            for (String text : new String[] {"*~(a b);", "(a b)~*;", "*~[a b];", "[a b]~*;"}) {
                CombinatorRing x = Boundary.of(text);
                x.reduce(0);
                due(text + " the first one", x.root(0), 3);
                due(text + " the second one", x.root(1), 0);
                due(text + " kinds", x.kind(0) + x.kind(1), 0);
                due(text + " nodes", x.count(1), 2);
            }
        }

        static void erasingNeedsNoRoom() {
            at("one an ERASER: two new ERASERS,");
            CombinatorRing x = Boundary.of("memory 8;*~#3;");
            due("full", x.next(0), NONE);
            due("it can be", x.pair(0, 3), 1);
            due("rule", x.reduce(0), 3);
            due("still full", x.count(1), 8);
            x = Boundary.of("memory 8;*~[a b];c~#2;");
            due("one place is free", x.run(0, 1, 0), 1);
        }

        static void growingMakesFourInOrder() {
            at("four new NODES, MADE in this order: DOUBLERS D1, D2, PAIRERS P1, P2.");
            for (String text : new String[] {"(a b)~[c d];", "[c d]~(a b);"}) {
                CombinatorRing x = Boundary.of(text);
                x.reduce(0);
                int[] kinds = {2, 2, 1, 1};
                for (int node = 0; node < 4; node++) {
                    due(text + " kind of " + node, x.kind(node), kinds[node]);
                }
                due(text + " nodes", x.count(1), 4);
                Boundary.linkedBothWays(x);
            }
        }

        static void growingLinksHeadsAndPorts() {
            at("HEADS of D1, D2 are LINKED to what was at PORTS 1, 2 of the PAIRER, those of P1, P2 to what was at PORTS"
                + " 1, 2 of the DOUBLER; PORT m of Dk to PORT k of Pm.");
            CombinatorRing x = Boundary.of("(a b)~[c d];");
            x.reduce(0);
            int[] heads = {3, 0, 6, 9};
            for (int root = 0; root < 4; root++) {
                due("root " + root, x.root(root), heads[root]);
            }
            int[] d = {0, 1, 0};
            int[] p = {0, 2, 3};
            for (int k = 1; k <= 2; k++) {
                for (int m = 1; m <= 2; m++) {
                    due("port " + m + " of D" + k, x.link(d[k], m), 3 * p[m] + k);
                }
            }
        }

        static void growingNeedsRoomForTwoMore() {
            at("It can't be if there is no room for two NODES more than there are ahead of it.");
            CombinatorRing x = Boundary.of("memory 8;[a b]~(c d);e~#1;f~*;");
            due("just room: it can", x.pair(0, 3), 1);
            due("just room", x.reduce(0), 5);
            due("full then", x.count(1), 8);
            for (String text : new String[] {"memory 8;[a b]~(c d);e~#2;", "memory 8;[a b]~(c d);e~#2;f~*;"}) {
                x = Boundary.of(text);
                due(text + " pair", x.pair(0, 3), 0);
                due(text + " count 4", x.count(4), 1);
                due(text + " count 5", x.count(5), 0);
                due(text + " reduce", x.reduce(0), NONE);
                due(text + " run", x.run(0, 9, 0), 0);
                due(text + " round", x.round(), 0);
                due(text + " rounds", x.rounds(), 0);
                due(text + " tried", x.tried(1, 9, 0, 0), 0);
                due(text + " alike", x.alike(0, 2, 0, 5), 1);
                due(text + " rule", x.rule(5), 0);
            }
        }

        static void roomComesAgain() {
            at("It can't be if there is no room for two NODES more than there are ahead of it.");
            CombinatorRing x = Boundary.of("memory 8;[a b]~(c d);e~#1;*~*;");
            due("no room yet", x.pair(0, 3), 0);
            due("two go", x.reduce(5), 0);
            due("room now", x.pair(0, 3), 1);
            due("it can be", x.reduce(0), 5);
        }

        static void theSixRules() {
            at("RULES: 0 two ERASERS, 1 two PAIRERS, 2 two DOUBLERS, 3 an ERASER and a PAIRER, 4 an ERASER and a"
                + " DOUBLER, 5 a PAIRER and a DOUBLER.");
            String[] trees = {"*", "(. .)", "[. .]"};
            int[][] rules = {{0, 3, 4}, {3, 1, 5}, {4, 5, 2}};
            for (int left = 0; left < 3; left++) {
                for (int right = 0; right < 3; right++) {
                    String text = named(trees[left] + "~" + trees[right] + ";");
                    CombinatorRing x = Boundary.of(text);
                    due(text, x.pair(0, 2), rules[left][right]);
                    due(text, x.reduce(0), rules[left][right]);
                    due(text, x.rule(rules[left][right]), 1);
                }
            }
        }

        /** Puts a name of its own for each dot. */
        private static String named(String text) {
            StringBuilder told = new StringBuilder();
            char name = 'a';
            for (char sign : text.toCharArray()) {
                told.append(sign == '.' ? name++ : sign);
            }
            return told.toString();
        }

        // ---- orders

        static void order0PassesOverWhatCantBe() {
            at("ORDERS of PAIRS that can be REDUCED: 0 that with the least X,");
            CombinatorRing x = Boundary.of("memory 9;[a b]~(c d);*~*;*~*;e~#0;f~*;");
            due("the first can't be", x.pair(0, 3), 0);
            due("one step", x.run(0, 1, 0), 1);
            due("the least that can be is gone", x.kind(2), NONE);
            due("the next one stays", x.kind(4), 0);
            due("now the first one can", x.run(0, 1, 0), 1);
            due("and went", x.rule(5), 1);
        }

        static void order1PassesOverWhatCantBe() {
            at("1 the greatest X,");
            CombinatorRing x = Boundary.of("memory 9;*~*;*~*;e~#0;f~*;[a b]~(c d);");
            due("the last can't be", x.pair(2, 3), 0);
            due("one step", x.run(1, 1, 0), 1);
            due("the greatest that can be is gone", x.kind(2), NONE);
            due("the lesser one stays", x.kind(0), 0);
            due("now the last one can", x.run(1, 1, 0), 1);
            due("and went", x.rule(5), 1);
        }

        static void order2WrapsAndDraws() {
            at("2 a DRAWN one: x (a SEED at first) becomes 1103515245 x + 12345 (ints, which wrap), then x >>> 16 modulo"
                + " how many there are: that one by X (from 0).");
            for (int seed : new int[] {0, 1, -1, 2, 12345, -12345, 65536, LEAST, LEAST + 1, GREATEST, GREATEST - 1}) {
                CombinatorRing x = Boundary.of("*~*;".repeat(7));
                boolean[] gone = new boolean[7];
                long drawn = seed;
                for (int left = 7; left >= 4; left--) {
                    drawn = (1103515245L * drawn + 12345L) & 0xFFFFFFFFL;
                    long k = (drawn >> 16) % left;
                    int at = 0;
                    for (int passed = 0; gone[at] || passed++ < k; at++) {
                    }
                    gone[at] = true;
                }
                due("seed " + seed, x.run(2, 4, seed), 4);
                for (int i = 0; i < 7; i++) {
                    due("seed " + seed + " node " + 2 * i, x.kind(2 * i), gone[i] ? NONE : 0);
                }
            }
        }

        static void order2DrawsAmongThoseThatCanBe() {
            at("ORDERS of PAIRS that can be REDUCED:");
            // Of seven pairs the one with X 2 can't be, so that six are drawn from.
            for (int seed = 0; seed < 12; seed++) {
                CombinatorRing x = Boundary.of("memory 17;*~*;[a b]~(c d);" + "*~*;".repeat(5) + "e~*;f~*;");
                long drawn = (1103515245L * seed + 12345L) & 0xFFFFFFFFL;
                int k = (int) ((drawn >> 16) % 6);
                due("one step", x.run(2, 1, seed), 1);
                due("seed " + seed, x.kind(k == 0 ? 0 : 2 * k + 2), NONE);
                due("seed " + seed + " rule", x.rule(0), 1);
            }
        }

        static void stepsTillNoneCanBe() {
            at("STEPS: PAIRS are REDUCED one by one, till none can be or there were so many.");
            String text = "*~*;*~*;*~*;";
            for (int order = 0; order < 3; order++) {
                due("none asked for", Boundary.of(text).run(order, 0, 9), 0);
                due("one less", Boundary.of(text).run(order, 2, 9), 2);
                due("just so many", Boundary.of(text).run(order, 3, 9), 3);
                due("more than there are", Boundary.of(text).run(order, 4, 9), 3);
                due("the most", Boundary.of(text).run(order, 9999, 9), 3);
                due("none that can be", Boundary.of("memory 8;[a b]~#3;").run(order, 9999, 9), 0);
                due("no pair", Boundary.of("a~*;").run(order, 9999, 9), 0);
            }
            due("without end", Boundary.of("memory 9;d~*;b~*;a~(b c);a~[c d];").run(0, 9999, 0), 9999);
        }

        static void aRoundTakesThoseAheadOfIt() {
            at("A ROUND: all PAIRS that there are, by X, as they are ahead of it;");
            CombinatorRing x = Boundary.of("(* *)~(* *);*~*;");
            due("two", x.round(), 2);
            due("those that came in it stay", x.count(4), 2);
            due("the next round takes them", x.round(), 2);
            due("none", x.round(), 0);
            due("nothing", new CombinatorRing().round(), 0);
        }

        static void aRoundGoesByX() {
            at("A ROUND: all PAIRS that there are, by X,");
            CombinatorRing x = Boundary.of("*~*;*~*;a~b;");
            due("two", x.round(), 2);
            due("the greater one's Y was freed last", x.next(0), 3);
            due("then X", x.next(1), 2);
            due("then the lesser one's", x.next(2), 1);
        }

        static void whatCantBeWhenItComesToItStays() {
            at("one that can't be when it comes to it stays.");
            CombinatorRing x = Boundary.of("memory 8;[a b]~(c d);[e f]~(g h);i~*;j~*;");
            due("both can ahead of it", x.count(5), 2);
            due("one goes", x.round(), 1);
            due("the other one stays", x.pair(0, 0), 2);
            due("and can't be", x.pair(0, 3), 0);
            x = Boundary.of("memory 8;*~*;[a b]~(c d);e~#1;");
            due("one can't ahead of it", x.count(5), 1);
            due("but can when it comes to it", x.round(), 2);
            x = Boundary.of("memory 8;[a b]~(c d);*~*;e~#1;");
            due("one can't when it comes to it", x.round(), 1);
            due("though it can behind", x.count(5), 1);
        }

        // ---- sights

        static void rootsAreLookedFromByNumbers() {
            at("SEEN FROM ROOTS: ROOTS that there are, by numbers;");
            CombinatorRing x = Boundary.of("a~*;b~*;c~*;");
            x.drop(1);
            due("the first one", x.met(0, 0), 0);
            due("then the third one", x.met(1, 0), 2);
            due("the one that is gone is none", x.seen(), 2);
            due("no roots", Boundary.of("*~(* *);").seen(), 0);
            due("nothing", new CombinatorRing().seen(), 0);
        }

        static void byWhichNumbersRootsLookIsOfMatter() {
            at("SEEN FROM ROOTS: ROOTS that there are, by numbers; from each, what it is LINKED to:");
            CombinatorRing x = Boundary.of("a~*;b~*;*~c;");
            x.join(0, 1);
            x.image(0, false);
            due("root 2 alone", x.rootAt(0), 2);
            x.undo();
            x.join(1, 2);
            due("root 0 alone", x.rootAt(0), 0);
            due("an eraser at each, but not at the same root", x.likeImage(0), 0);
        }

        static void aNodeIsMetByAPort() {
            at("a NODE that wasn't met yet: MET, by which PORT, its KIND;");
            for (int port = 0; port < 3; port++) {
                String[] texts = {"r~(* *);", "(r *)~*;", "(* r)~*;"};
                CombinatorRing x = Boundary.of(texts[port]);
                due(texts[port], x.met(0, 0), 0);
                due(texts[port], x.met(0, 1), port);
                due(texts[port], x.seen(), 3);
            }
        }

        static void theLesserPortComesFirst() {
            at("then from its other PORTS, the lesser first, likewise (ERASERS have none), each down to its end ahead of"
                + " the next one;");
            order("r~((* *) *);", "0:0 1:0 2:0 3:0 4:0");
            order("(r (* *))~[* *];", "0:1 4:0 5:0 6:0 1:0 2:0 3:0");
            order("([* *] r)~[* *];", "0:2 4:0 5:0 6:0 1:0 2:0 3:0");
            order("r~*;s~*;", "0:0 1:0");
        }

        private static void order(String text, String want) {
            CombinatorRing x = Boundary.of(text);
            StringBuilder got = new StringBuilder();
            for (int i = 0; i < x.seen(); i++) {
                got.append(i > 0 ? " " : "").append(x.met(i, 0)).append(':').append(x.met(i, 1));
            }
            Boundary.same(text, got.toString(), want);
        }

        static void aNodeMetAlreadyIsToldByWhichPort() {
            at("a NODE met already: which one (as they were met), which PORT;");
            order("r~(a a);", "0:0");
            order("r~(a b);s~(b a);", "0:0 1:2");
            CombinatorRing x = Boundary.of("r~((a b)(c d));");
            x.join(1, 3);
            x.join(2, 4);
            x.image(0, false);
            x.undo();
            x.undo();
            x.join(2, 4);
            x.join(1, 3);
            due("the same ports", x.likeImage(0), 1);
            x.undo();
            x.undo();
            x.join(1, 4);
            x.join(2, 3);
            due("other ports of the same one", x.likeImage(0), 0);
            x.undo();
            x.undo();
            x.join(1, 2);
            x.join(3, 4);
            due("ports of another one", x.likeImage(0), 0);
        }

        static void whichOneWasMetAlreadyIsOfMatter() {
            at("a NODE met already: which one (as they were met), which PORT;");
            // Down from r by heads; the third node's ports go back to ports 2 of the first and the second one.
            CombinatorRing x = Boundary.of("r~((( a b) c) d);");
            x.join(1, 4);
            x.join(2, 3);
            x.image(0, false);
            x.undo();
            x.undo();
            x.join(1, 3);
            x.join(2, 4);
            due("turned", x.likeImage(0), 0);
            x.undo();
            x.undo();
            x.join(4, 1);
            x.join(3, 2);
            due("as they were", x.likeImage(0), 1);
        }

        static void byWhichPortItIsMetIsOfMatter() {
            at("a NODE that wasn't met yet: MET, by which PORT, its KIND;");
            CombinatorRing x = Boundary.of("(p q)~*;r~s;t~*;");
            x.join(0, 3);
            x.join(1, 4);
            x.image(0, false);
            due("by port 1", x.met(0, 1), 1);
            x.undo();
            x.undo();
            x.join(1, 3);
            x.join(0, 4);
            due("by port 2", x.met(0, 1), 2);
            due("all else is alike", x.likeImage(0), 0);
        }

        static void portAndKindAreBothOfMatter() {
            at("a NODE that wasn't met yet: MET, by which PORT, its KIND;");
            // r at a doubler's head, then at a pairer's port 1; two erasers at the other ports; nothing else is come to.
            CombinatorRing x = Boundary.of("r~s;a~[b c];d~(e f);g~*;h~*;i~*;");
            int[][] ways = {{1, 2, 3, 8, 4, 9, 5, 6, 7, 10}, {1, 6, 5, 8, 7, 9, 2, 3, 4, 10}};
            for (int[] way : ways) {
                for (int i = 0; i < way.length; i += 2) {
                    x.join(way[i], way[i + 1]);
                }
                due("one root", x.count(6), 1);
                due("three nodes", x.seen(), 3);
                if (way == ways[0]) {
                    x.image(0, false);
                    due("by the head", x.met(0, 1), 0);
                    for (int i = 0; i < way.length; i += 2) {
                        x.undo();
                    }
                }
            }
            due("by port 1", x.met(0, 1), 1);
            due("unlike", x.likeImage(0), 0);
        }

        static void ofWhichKindItIsIsOfMatter() {
            at("a NODE that wasn't met yet: MET, by which PORT, its KIND;");
            CombinatorRing x = Boundary.of("a~b;");
            x.split(0);
            x.image(0, false);
            x.undo();
            x.twice(0);
            due("a pairer and a doubler", x.likeImage(0), 0);
            x.undo();
            x.drop(0);
            x.image(1, false);
            x.undo();
            x.put(0, 0);
            due("two erasers", x.likeImage(1), 1);
        }

        static void aRootIsToldByWhichOne() {
            at("a ROOT: which one.");
            CombinatorRing x = Boundary.of("a~(p q);b~r;c~s;");
            x.join(1, 4);
            x.join(2, 6);
            x.image(0, false);
            x.undo();
            x.undo();
            x.join(1, 6);
            x.join(2, 4);
            due("the same roots, turned", x.likeImage(0), 0);
            x.undo();
            x.undo();
            x.join(2, 6);
            x.join(1, 4);
            due("the same ones again", x.likeImage(0), 1);
            due("roots alone are no nodes", Boundary.of("a~b;").seen(), 0);
        }

        static void aRootLinkedToARootIsToldByWhichOne() {
            at("a ROOT: which one.");
            CombinatorRing x = Boundary.of("a~p;q~b;c~r;s~d;");
            x.join(1, 2);
            x.join(5, 6);
            due("a and b", x.root(0), 1003);
            x.image(0, false);
            x.undo();
            x.undo();
            x.join(1, 5);
            x.join(2, 6);
            due("a and c", x.root(0), 1004);
            due("the same roots, linked otherwise", x.likeImage(0), 0);
        }

        static void whatIsntComeToIsOfNoMatter() {
            at("Two NETS are ALIKE if all that is SEEN FROM ROOTS is alike (what isn't come to is of no matter).");
            CombinatorRing x = Boundary.of("a~#1;*~*;(* *)~*;b~b;");
            x.image(0, false);
            due("a net and itself", x.likeImage(0), 1);
            x.run(0, 9, 0);
            due("all else is gone", x.likeImage(0), 1);
            due("nodes are", x.count(1), 3);
            x.drop(0);
            due("the root is gone", x.likeImage(0), 0);
            x = Boundary.of("*~*;");
            x.image(0, false);
            x.run(0, 9, 0);
            due("nothing is seen of both", x.likeImage(0), 1);
        }

        static void allOfMemoryIsCompared() {
            at("Two NETS are ALIKE if all that is SEEN FROM ROOTS is alike");
            // What fills memory hangs at port 1 of the first node met, so that the tree at port 2 is seen last.
            CombinatorRing x = Boundary.of("memory 300;r~(x((p q)(s t)));(a x)~[a c];");
            x.run(0, 9999, 0);
            due("memory is full", x.count(1), 300);
            due("all is seen", x.seen(), 300);
            x.join(1, 3);
            x.join(2, 4);
            x.image(0, false);
            due("the same", x.likeImage(0), 1);
            x.undo();
            x.undo();
            x.join(1, 4);
            x.join(2, 3);
            due("unlike at the end", x.likeImage(0), 0);
        }

        static void whatWasSeenEarlierIsOfNoMatter() {
            at("Two NETS are ALIKE if all that is SEEN FROM ROOTS is alike");
            CombinatorRing x = Boundary.of("a~#20;b~<1 2 3>;");
            due("much is seen", x.seen(), 41 + 19);
            Boundary.read(x, "a~*;");
            x.image(0, false);
            due("little now", x.likeImage(0), 1);
            due("by orders", x.alike(0, 1, 9, 0), 1);
        }

        static void numbersOfNodesAreOfNoMatter() {
            at("Two NETS are ALIKE if all that is SEEN FROM ROOTS is alike");
            CombinatorRing x = Boundary.of("a~(* b);*~*;c~d;");
            x.put(2, 1);
            x.image(0, false);
            x.undo();
            x.reduce(2);
            x.put(2, 1);
            due("a tree of other numbers", x.likeImage(0), 1);
            x.undo();
            x.put(2, 2);
            due("another tree", x.likeImage(0), 0);
        }

        // ---- readings

        static void aNumberHangsByHeads() {
            at("READ at a ROOT: a NUMBER, a list, if a TREE (of ERASERS and PAIRERS, by HEADS) as in 1. hangs there,");
            due("an eraser", Boundary.of("a~*;").number(0), 0);
            due("a doubler", Boundary.of("a~[* *];").number(0), -2);
            due("a doubler in it", Boundary.of("a~(* [* *]);").number(0), -2);
            due("a doubler ahead", Boundary.of("a~([* *] *);").number(0), -2);
            due("a pairer ahead", Boundary.of("a~((* *) *);").number(0), -2);
            due("by port 1", Boundary.of("(a *)~*;").number(0), -2);
            due("by port 2", Boundary.of("(* a)~*;").number(0), -2);
            due("a port within", Boundary.of("a~(* b);(* b)~*;").number(0), -2);
            due("a port ahead", Boundary.of("a~(b *);(b *)~*;").number(0), -2);
            due("a root within", Boundary.of("a~(* b);").number(0), -2);
            due("a root", Boundary.of("a~b;").number(0), -2);
            due("its own ports", Boundary.of("a~(b b);").number(0), -2);
        }

        static void aListHangsByHeads() {
            at("READ at a ROOT: a NUMBER, a list, if a TREE (of ERASERS and PAIRERS, by HEADS) as in 1. hangs there,");
            due("an eraser", Boundary.of("a~*;").list(0, NONE), 0);
            due("a number is a list of noughts", Boundary.of("a~#3;").list(0, NONE), 3);
            due("a doubler", Boundary.of("a~[* *];").list(0, NONE), -2);
            due("a doubler behind", Boundary.of("a~(#1 [* *]);").list(0, 0), -2);
            due("a list in it", Boundary.of("a~(<1> *);").list(0, NONE), -2);
            due("a root behind", Boundary.of("a~(#1 b);").list(0, 0), -2);
            due("a root ahead", Boundary.of("a~(b *);").list(0, NONE), -2);
            due("by a port", Boundary.of("(a *)~*;").list(0, NONE), -2);
            due("its own ports", Boundary.of("a~(b b);").list(0, NONE), -2);
            due("a root", Boundary.of("a~b;").list(0, NONE), -2);
        }

        static void ofAnySize() {
            at("of any size, any length.");
            due("beyond 20", Boundary.of("a~(* #20);").number(0), 21);
            due("a list's number beyond 9", Boundary.of("a~(#20 (#10 *));").list(0, 0), 20);
            due("the next one", Boundary.of("a~(#20 (#10 *));").list(0, 1), 10);
            CombinatorRing x = Boundary.of(longest());
            due("nodes", x.count(1), 299);
            due("the greatest that memory holds", x.number(0), 149);
            due("as a list", x.list(0, NONE), 149);
            due("its last number", x.list(0, 148), 0);
            due("beyond", x.list(0, 149), -2);
        }

        static void ofAnyLength() {
            at("of any size, any length.");
            CombinatorRing x = Boundary.of("a~(#0 (#1 (#2 <3 4 5 6 7 8 9 0 1 2>)));");
            due("beyond ten", x.list(0, NONE), 13);
            due("the first", x.list(0, 0), 0);
            due("the last", x.list(0, 12), 2);
            due("beyond", x.list(0, 13), -2);
        }

        /** The number 149, told by chains of names: 299 of 300 nodes. */
        private static String longest() {
            StringBuilder told = new StringBuilder("memory 300;a~b;");
            for (char name = 'b'; name < 'h'; name++) {
                told.append(name).append('~').append("(*".repeat(20)).append((char) (name + 1)).append(")".repeat(20)).append(';');
            }
            return told.append("h~").append("(*".repeat(9)).append("#20").append(")".repeat(9)).append(';').toString();
        }

        // ---- images, what can be taken back

        static void twoImagesHoldAll() {
            at("IMAGES 0, 1 hold the NET, MEMORY, what is FREED, counts.");
            CombinatorRing x = Boundary.of("memory 20;*~*;[a b]~(c *);d~e;f~f;");
            x.reduce(0);
            x.drop(3);
            x.image(0, false);
            String laid = Boundary.net(x);
            x.run(0, 9, 0);
            x.split(0);
            x.join(2, 4);
            x.image(1, false);
            String other = Boundary.net(x);
            x.image(0, true);
            Boundary.same("image 0", Boundary.net(x), laid);
            x.image(1, true);
            Boundary.same("image 1", Boundary.net(x), other);
        }

        static void theLatestTwelve() {
            at("The latest 12 of run(), round(), reduce(), put(), split(), twice(), drop(), join() that weren't refused can"
                + " be taken back.");
            CombinatorRing x = new CombinatorRing();
            for (int calls = 1; calls <= 30; calls++) {
                x.run(0, 0, 0);
                due("behind " + calls, x.count(12), Math.min(calls, 12));
            }
            x = Boundary.of("a~b;c~d;e~f;g~h;i~j;k~l;m~n;");
            for (int root = 0; root < 13; root++) {
                x.drop(root);
            }
            for (int left = 11; left >= 0; left--) {
                due("undo", x.undo(), left);
            }
            due("the thirteenth isn't", x.undo(), NONE);
            due("it stays", x.count(1), 1);
        }

        static void eachOfTheEightCanBeTakenBack() {
            at("The latest 12 of run(), round(), reduce(), put(), split(), twice(), drop(), join() that weren't refused can"
                + " be taken back.");
            for (int call = 0; call < 8; call++) {
                CombinatorRing x = Boundary.of("memory 12;*~*;[a b]~(c *);d~e;");
                String ahead = Boundary.net(x);
                due("call " + call + " isn't refused", byCall(x, call) == NONE, false);
                due("call " + call + " is kept", x.count(12), 1);
                due("call " + call + " is taken back", x.undo(), 0);
                Boundary.same("behind call " + call, Boundary.net(x), ahead);
            }
        }

        private static int byCall(CombinatorRing x, int call) {
            switch (call) {
                case 0: return x.run(0, 9, 0);
                case 1: return x.round();
                case 2: return x.reduce(2);
                case 3: return x.put(0, 2);
                case 4: return x.split(1);
                case 5: return x.twice(2);
                case 6: return x.drop(3);
                default: return x.join(3, 4);
            }
        }

        static void whatWasRefusedCantBeTakenBack() {
            at("The latest 12 of run(), round(), reduce(), put(), split(), twice(), drop(), join() that weren't refused can"
                + " be taken back.");
            CombinatorRing x = Boundary.of("a~#1;b~*;");
            x.run(3, 0, 0);
            x.run(0, -1, 0);
            x.reduce(0);
            x.put(2, 0);
            x.put(0, 21);
            x.split(2);
            x.twice(-1);
            x.drop(2);
            x.join(0, 0);
            x.join(0, 2);
            due("none is kept", x.count(12), 0);
            due("round() is never refused", x.round(), 0);
            due("so it is kept", x.count(12), 1);
        }

        // ---- short names for what each test uses

        private static void at(String sentence) {
            Boundary.at("Terms", sentence);
        }

        private static void due(String what, long got, long want) {
            Boundary.due(what, got, want);
        }

        private static void due(String what, boolean got, boolean want) {
            Boundary.due(what, got, want);
        }
    }
}
