/** The edges that promises 1 to 29 name, a test for each sentence; a name begins with its promise's number. */
public final class PromiseBoundaryTest {
    private static final int NONE = Boundary.NONE;
    private static final int LEAST = Boundary.LEAST;
    private static final int GREATEST = Boundary.GREATEST;

    public static void main(String[] args) throws Exception {
        String[] promises = new String[29];
        for (int i = 0; i < promises.length; i++) {
            promises[i] = "Promise " + (i + 1) + ":";
        }
        Boundary.runAll(Tests.class, args, promises);
    }

    /** Each method here is one test; they run by their names. */
    private static final class Tests {
        /** 25 lines of twenty blanks fill the tape. */
        private static final int BLANKS = 0x20202020;
        private static final String ROOTS_14 = "a~b;c~d;e~f;g~h;i~j;k~l;m~n;";
        /** Three roots, seven of eight nodes. */
        private static final String ROOM_FOR_1 = "memory 8;a~#2;b~*;c~*;";
        private static final String FULL = "memory 8;a~#2;b~*;c~*;d~*;";
        /** A pair that never ends. */
        private static final String ENDLESS = "memory 9;d~*;b~*;a~(b c);a~[c d];";

        // ---- ahead of all: how long an object is used

        static void p00_the512thCall() {
            Boundary.at("What it is", "An object is used for at most 512 calls after it has been made;");
            CombinatorRing x = new CombinatorRing();
            x.feed(0x2A7E2A3B, 0x617E283B, BLANKS, BLANKS, BLANKS);
            due("call 2", x.net(4), 2);
            for (int call = 3; call < 510; call += 3) {
                due("call " + call, x.run(call % 3, 9999, call), 1);
                due("call " + (call + 1), x.undo(), 0);
                due("call " + (call + 2), x.image(call % 2, false), true);
            }
            due("call 510", x.run(0, 9999, 0), 1);
            due("call 511", x.undo(), 0);
            due("call 512", x.count(1), 2);
        }

        static void p00_dearCallsToTheEnd() {
            Boundary.at("What it is", "An object is used for at most 512 calls after it has been made;");
            CombinatorRing x = new CombinatorRing();
            Boundary.feedText(x, ENDLESS);
            due("call 3", x.net(ENDLESS.length()), 4);
            for (int call = 4; call <= 512; call++) {
                due("call " + call, x.run(0, 9999, 0), 9999);
            }
        }

        // ---- 1: a new object

        static void p01_aNewObject() {
            at(1, "A NET of nothing, MEMORY 200.");
            CombinatorRing x = new CombinatorRing();
            int[] counts = {200, 0, 0, 0, 0, 0, 0, 0, 0, 0, NONE, 0, 0, 0};
            for (int what = 0; what < counts.length; what++) {
                due("count(" + what + ")", x.count(what), counts[what]);
            }
            for (int rule = 0; rule < 6; rule++) {
                due("rule(" + rule + ")", x.rule(rule), 0);
            }
            due("kind(0)", x.kind(0), NONE);
            due("link(0, 0)", x.link(0, 0), NONE);
            due("root(0)", x.root(0), NONE);
            due("rootAt(0)", x.rootAt(0), NONE);
            due("pair(0, 0)", x.pair(0, 0), NONE);
            due("next(0)", x.next(0), 0);
            due("next(199)", x.next(199), 199);
            due("next(200)", x.next(200), NONE);
            due("seen()", x.seen(), 0);
            due("met(0, 0)", x.met(0, 0), NONE);
        }

        static void p01_callsOnANetOfNothing() {
            at(1, "A NET of nothing, MEMORY 200.");
            CombinatorRing x = new CombinatorRing();
            due("number(0)", Boundary.numberThrows(x, 0), true);
            due("list(0, 0)", Boundary.listThrows(x, 0, 0), true);
            due("reduce(0)", x.reduce(0), NONE);
            due("put(0, 0)", x.put(0, 0), NONE);
            due("split(0)", x.split(0), NONE);
            due("twice(0)", x.twice(0), NONE);
            due("drop(0)", x.drop(0), NONE);
            due("join(0, 1)", x.join(0, 1), NONE);
            due("undo()", x.undo(), NONE);
            due("image(0, true)", x.image(0, true), false);
            due("likeImage(0)", x.likeImage(0), NONE);
            due("tried", x.tried(0, 9, 0, 0) + x.tried(0, 9, 0, 1) + x.tried(0, 9, 0, 2), 0);
            due("rounds()", x.rounds(), 0);
            due("alike", x.alike(0, 1, 9, 0), 1);
            due("run", x.run(0, 9, 0), 0);
            due("round()", x.round(), 0);
            due("image(0, false)", x.image(0, false), true);
            due("likeImage(0)", x.likeImage(0), 1);
        }

        static void p01_objectsShareNothing() {
            at(1, "A NET of nothing, MEMORY 200.");
            CombinatorRing x = Boundary.of("memory 9;a~*;");
            x.image(0, false);
            CombinatorRing y = new CombinatorRing();
            due("memory", y.count(0), 200);
            due("images", y.count(11), 0);
            due("the first one's", x.count(0), 9);
        }

        // ---- 2: feed

        static void p02_theHighestByteFirst() {
            at(2, "Twenty bytes come behind THE TAPE, of each number the highest first: how many it has;");
            CombinatorRing x = new CombinatorRing();
            due("a~b;", x.feed(0x617E623B, BLANKS, BLANKS, BLANKS, BLANKS), 20);
            due("c~*;", x.feed(BLANKS, BLANKS, BLANKS, BLANKS, 0x637E2A3B), 40);
            due("behind one another", x.net(40), 1);
            due("roots", x.count(6), 3);
            x.feed(0x2A7E2A3B, 0x2A7E2A3B, 0x2A7E2A3B, 0x2A7E2A3B, 0x2A7E2A3B);
            due("of each of the five", x.net(20), 10);
        }

        static void p02_bytesBeyond127() {
            at(2, "Twenty bytes come behind THE TAPE, of each number the highest first:");
            CombinatorRing x = new CombinatorRing();
            due("how many", x.feed(0xE17E2A3B, LEAST, -1, GREATEST, 0), 20);
            due("the first one's highest bit", x.net(20), -2 - 1);
            x.feed(0x617E2AFF, 0, 0, 0, 0);
            due("the lowest byte", x.net(20), -2 - (8 * 3 + 1));
        }

        static void p02_wouldHaveMoreThan500() {
            at(2, "NONE, and none come, if it would have more than 500.");
            CombinatorRing x = new CombinatorRing();
            for (int line = 1; line <= 25; line++) {
                due("line " + line, x.feed(BLANKS, BLANKS, BLANKS, BLANKS, BLANKS), 20 * line);
            }
            due("beyond", x.feed(-1, -1, -1, -1, -1), NONE);
            due("beyond, again", x.feed(-1, -1, -1, -1, -1), NONE);
            due("none came", x.count(13), 500);
            due("they are the ones fed", x.net(500), 0);
            due("there is room again", x.feed(BLANKS, BLANKS, BLANKS, BLANKS, BLANKS), 20);
        }

        // ---- 3: net

        static void p03_theFirstBytes() {
            at(3, "The first n bytes of THE TAPE (it is empty then) are the NET from now on: how many NODES;");
            CombinatorRing x = new CombinatorRing();
            Boundary.feedText(x, "a~#1;b~*;c~?");
            due("five", x.net(5), 3);
            due("the others are gone, too", x.count(13), 0);
            Boundary.feedText(x, "a~#1;b~*;c~?");
            due("nine", x.net(9), 4);
            Boundary.feedText(x, "a~*;");
            due("none", x.net(0), 0);
            due("it is empty then, too", x.count(13), 0);
            due("none of an empty tape", x.net(0), 0);
            Boundary.feedText(x, "a~*;");
            due("all", x.net(20), 1);
        }

        static void p03_manyTextsOneBehindTheOther() {
            at(3, "The first n bytes of THE TAPE (it is empty then) are the NET from now on: how many NODES;");
            CombinatorRing x = new CombinatorRing();
            for (int i = 0; i < 80; i++) {
                x.feed(0x617E6228, 0x637E643B, 0x617E2A3B, 0x657E613B, 0x667E673B);
                due("a fault at the (", x.net(20), -2 - (8 * 3 + 1));
                x.feed(0x617E623B, 0x637E643B, 0x657E2A3B, 0x627E613B, 0x667E673B);
                due("nodes", x.net(20), 1);
                due("roots as they stand", x.root(4), 1003);
            }
        }

        static void p03_namesOfAnEarlierTextAreGone() {
            at(3, "The first n bytes of THE TAPE (it is empty then) are the NET from now on:");
            String sixteen = ROOTS_14 + "o~p;";
            CombinatorRing x = new CombinatorRing();
            due("17 roots", Boundary.read(x, sixteen + "q~*;"), -2 - (8 * 36 + 6));
            due("16 roots behind them", Boundary.read(x, sixteen), 0);
            due("they are 16", x.count(7), 16);
            due("one root behind them", Boundary.read(x, "q~*;"), 1);
            due("it is one", x.count(7), 1);
            due("its number", x.root(0), 0);
            due("a name that stood twice", Boundary.read(x, "a~a;q~*;"), 1);
            due("stands once now", Boundary.read(x, "a~*;"), 1);
            due("a root", x.count(6), 1);
        }

        static void p03_namesOverAllTheTape() {
            at(3, "The first n bytes of THE TAPE (it is empty then) are the NET from now on:");
            StringBuilder text = new StringBuilder();
            for (char name = 'a'; name <= 'z'; name++) {
                text.append(name).append('~').append(name).append(';');
            }
            for (char name = 'a'; name < 'z'; name++) {
                text.append(name).append(name).append('~').append(name).append(name).append(';');
            }
            for (char name = 'a'; name <= 'z'; name++) {
                text.append('z').append(name).append("~z").append(name).append(';');
            }
            CombinatorRing x = new CombinatorRing();
            due(text.toString(), Boundary.read(x, text.toString()), 0);
            due("a loop for each name", x.count(8), 26 + 25 + 26);
        }

        static void p03_whatIsForgotten() {
            at(3, "counts are 0, no IMAGES, nothing can be taken back.");
            CombinatorRing x = Boundary.of("memory 20;*~*;(a b)~[c c];d~d;");
            x.run(0, 99, 0);
            x.drop(0);
            x.image(0, false);
            x.image(1, false);
            Boundary.read(x, "a~*;");
            int[] counts = {200, 1, 1, 0, 0, 0, 1, 1, 0, 0, 0, 0, 0, 0};
            for (int what = 0; what < counts.length; what++) {
                due("count(" + what + ")", x.count(what), counts[what]);
            }
            for (int rule = 0; rule < 6; rule++) {
                due("rule(" + rule + ")", x.rule(rule), 0);
            }
            due("undo()", x.undo(), NONE);
            due("image(0, true)", x.image(0, true), false);
            due("likeImage(1)", x.likeImage(1), NONE);
            due("next(0)", x.next(0), 1);
        }

        static void p03_hasNotSoMany() {
            at(3, "NONE: it has not so many, n is below 0 (THE TAPE stays).");
            CombinatorRing x = Boundary.of("memory 9;*~*;a~*;");
            x.run(0, 1, 0);
            x.image(0, false);
            Boundary.feedText(x, "b~#1;");
            String ahead = Boundary.state(x);
            for (int n : new int[] {21, 22, 500, 501, GREATEST, -1, -2, LEAST}) {
                due("net(" + n + ")", x.net(n), NONE);
            }
            Boundary.same("all stays", Boundary.state(x), ahead);
            due("the tape's bytes stay", x.net(20), 3);
            due("an empty tape has not one", x.net(1), NONE);
        }

        static void p03_aFault() {
            at(3, "-2 less (8 * place + kind): a FAULT (all else stays).");
            CombinatorRing x = Boundary.of("memory 9;*~*;a~*;b~b;");
            x.run(0, 1, 0);
            x.image(1, false);
            String ahead = Boundary.state(x);
            int[] faults = {-2 - 1, -2 - (8 * 6 + 2), -2 - (8 * 7 + 3), -2 - (8 * 20 + 4), -2 - (8 * 11 + 5), -2 - (8 * 37 + 6)};
            String[] texts = {"?", "a~a;*~a;", "memory 7;", "(".repeat(21), "memory 8;a~#4;",
                "a~b;c~d;e~f;g~h;i~j;k~l;m~n;o~p;q~*; "};
            for (int i = 0; i < texts.length; i++) {
                due(texts[i], Boundary.read(x, texts[i]), faults[i]);
            }
            Boundary.same("all else stays", Boundary.state(x), ahead);
            due("what can be taken back", x.undo(), 0);
            due("the image", x.likeImage(1), 1);
        }

        static void p03_greatestPlace() {
            at(3, "-2 less (8 * place + kind): a FAULT");
            Boundary.fault(" ".repeat(499) + "a", 500, 1);
            Boundary.fault(" ".repeat(499) + "?", 499, 1);
        }

        // ---- 4: count

        static void p04_memory() {
            at(4, "What 0: MEMORY, 1: NODES, 2: NODES ever MADE (those of the TEXT, too), 3: ever FREED,");
            CombinatorRing x = Boundary.of("memory 300;*~(a b);");
            dueCounts(x, 0, 300, 2, 2, 0);
            x.reduce(0);
            dueCounts(x, 0, 300, 2, 4, 2);
            x.undo();
            dueCounts(x, 0, 300, 2, 2, 0);
            x = Boundary.of("*~*;");
            x.reduce(0);
            dueCounts(x, 0, 200, 0, 2, 2);
        }

        static void p04_pairs() {
            at(4, "4: PAIRS, 5: PAIRS that can be REDUCED,");
            dueCounts(Boundary.of("a~*;"), 4, 0, 0);
            dueCounts(Boundary.of("memory 8;[a b]~#3;"), 4, 1, 0);
            dueCounts(Boundary.of("memory 9;[a b]~#3;"), 4, 1, 0);
            dueCounts(Boundary.of("memory 10;[a b]~#3;"), 4, 1, 1);
            dueCounts(Boundary.of("memory 8;*~*;[a b]~#2;"), 4, 2, 1);
            dueCounts(Boundary.of("*~*;".repeat(100)), 4, 100, 100);
        }

        static void p04_roots() {
            at(4, "6: ROOTS, 7: ROOTS ever, 8: LOOPS ever,");
            CombinatorRing x = Boundary.of("a~b;c~d;e~e;");
            dueCounts(x, 6, 4, 4, 1);
            x.join(0, 1);
            dueCounts(x, 6, 2, 4, 2);
            x.split(2);
            dueCounts(x, 6, 3, 6, 2);
            x.undo();
            x.undo();
            dueCounts(x, 6, 4, 4, 1);
        }

        static void p04_freedNumbers() {
            at(4, "9: numbers that were FREED and not given again, 10: the greatest number ever given (NONE: none),");
            CombinatorRing x = Boundary.of("a~b;*~*;c~*;");
            dueCounts(x, 9, 0, 2);
            x.reduce(0);
            dueCounts(x, 9, 2, 2);
            x.drop(0);
            dueCounts(x, 9, 1, 2);
            x.put(1, 1);
            dueCounts(x, 9, 0, 4);
            dueCounts(new CombinatorRing(), 9, 0, NONE);
            dueCounts(Boundary.of("a~b;"), 9, 0, NONE);
            x = Boundary.of("*~*;");
            x.reduce(0);
            dueCounts(x, 9, 2, 1);
        }

        static void p04_imagesBackTape() {
            at(4, "11: IMAGES that hold something, 12: what can be taken back, 13: bytes on THE TAPE.");
            CombinatorRing x = new CombinatorRing();
            dueCounts(x, 11, 0, 0, 0);
            x.image(1, false);
            x.round();
            x.feed(0, 0, 0, 0, 0);
            dueCounts(x, 11, 1, 1, 20);
            x.image(1, false);
            dueCounts(x, 11, 1, 1, 20);
            x.image(0, false);
            dueCounts(x, 11, 2, 1, 20);
            x.image(0, true);
            dueCounts(x, 11, 2, 0, 20);
            x.net(0);
            dueCounts(x, 11, 0, 0, 0);
        }

        static void p04_anotherWhat() {
            at(4, "NONE for another what.");
            for (int what : new int[] {-1, 14, 15, LEAST, GREATEST}) {
                due("count(" + what + ")", new CombinatorRing().count(what), NONE);
            }
        }

        private static void dueCounts(CombinatorRing x, int from, int... want) {
            for (int i = 0; i < want.length; i++) {
                due("count(" + (from + i) + ")", x.count(from + i), want[i]);
            }
        }

        // ---- 5: rule

        static void p05_howOften() {
            at(5, "How often PAIRS were REDUCED by a RULE (0 to 5);");
            String[] texts = {"*~*;", "(a b)~(c d);", "[a b]~[c d];", "*~(a b);", "*~[a b];", "(a b)~[c d];"};
            for (int rule = 0; rule < 6; rule++) {
                CombinatorRing x = Boundary.of(texts[rule]);
                due("ahead", x.rule(rule), 0);
                x.tried(0, 9, 0, 0);
                x.rounds();
                x.alike(0, 1, 9, 0);
                due("in thought is not at all", x.rule(rule), 0);
                x.round();
                for (int other = 0; other < 6; other++) {
                    due("behind: rule(" + other + ")", x.rule(other), other == rule ? 1 : 0);
                }
                x.undo();
                due("taken back", x.rule(rule), 0);
            }
            CombinatorRing x = Boundary.of(ENDLESS);
            x.run(0, 9999, 0);
            int all = 0;
            for (int rule = 0; rule < 6; rule++) {
                all += x.rule(rule);
            }
            due("many", all, 9999);
        }

        static void p05_others() {
            at(5, "NONE: others.");
            for (int rule : new int[] {-1, 6, 7, LEAST, GREATEST}) {
                due("rule(" + rule + ")", Boundary.of("*~*;").rule(rule), NONE);
            }
        }

        // ---- 6: kind

        static void p06_noneSuch() {
            at(6, "KIND of a NODE; NONE: there is none such.");
            CombinatorRing x = Boundary.of("memory 8;a~(* [b c]);*~*;");
            due("the first one", x.kind(0), 1);
            due("an eraser", x.kind(1), 0);
            due("a doubler", x.kind(2), 2);
            due("the last one", x.kind(4), 0);
            due("never given", x.kind(5), NONE);
            due("memory's last one", x.kind(7), NONE);
            x.reduce(3);
            due("freed X", x.kind(3), NONE);
            due("freed Y", x.kind(4), NONE);
            for (int node : new int[] {-1, 8, 200, 299, 300, 1000, LEAST, GREATEST}) {
                due("kind(" + node + ")", x.kind(node), NONE);
            }
        }

        // ---- 7: link

        static void p07_toANodeOrARoot() {
            at(7, "To what a PORT of a NODE is LINKED: 3 times the NODE and its PORT; 1000 and the ROOT;");
            CombinatorRing x = Boundary.of("memory 300;" + "*~#20;".repeat(7) + "(a a)~b;");
            due("its own port 2", x.link(294, 1), 884);
            due("its own port 1", x.link(294, 2), 883);
            due("a root", x.link(294, 0), 1000);
            due("a head", x.link(0, 0), 3);
            x = Boundary.of(ROOTS_14 + "o~(p *);");
            due("root 14", x.link(0, 0), 1014);
            due("root 15", x.link(0, 1), 1015);
        }

        static void p07_noneSuch() {
            at(7, "NONE: there is none such, it has no such PORT.");
            CombinatorRing x = Boundary.of("memory 8;a~(* b);*~*;");
            x.reduce(2);
            for (int port : new int[] {-1, 3, 4, LEAST, GREATEST}) {
                due("link(0, " + port + ")", x.link(0, port), NONE);
            }
            for (int port : new int[] {-1, 1, 2, 3, LEAST, GREATEST}) {
                due("link(1, " + port + ") of an eraser", x.link(1, port), NONE);
            }
            CombinatorRing y = Boundary.of("*~(a b);");
            y.reduce(0);
            due("port 1 of an eraser that has a pairer's number", y.link(1, 1), NONE);
            due("port 2 of it", y.link(1, 2), NONE);
            for (int node : new int[] {-1, 2, 3, 4, 7, 8, 300, 333, 334, 1431655765, 1431655766, LEAST, GREATEST}) {
                due("link(" + node + ", 0)", x.link(node, 0), NONE);
                due("link(" + node + ", 1)", x.link(node, 1), NONE);
            }
        }

        // ---- 8: root

        static void p08_likewise() {
            at(8, "Likewise of a ROOT.");
            CombinatorRing x = Boundary.of("(a b)~c;d~e;f~*;");
            int[] want = {1, 2, 0, 1004, 1003, 3};
            for (int root = 0; root < want.length; root++) {
                due("root(" + root + ")", x.root(root), want[root]);
            }
            x.drop(5);
            due("one that is gone", x.root(5), NONE);
            for (int root : new int[] {-1, 6, 15, 16, 17, -1000, 1000, LEAST, GREATEST}) {
                due("root(" + root + ")", x.root(root), NONE);
            }
        }

        static void p08_noRoot16EitherBehindSteps() {
            at(8, "Likewise of a ROOT.");
            CombinatorRing x = Boundary.of("(a b)~[c d];" + "*~(* *);".repeat(3));
            x.run(0, 99, 0);
            for (int root = 4; root <= 21; root++) {
                due("root(" + root + ")", x.root(root), NONE);
                due("drop(" + root + ")", x.drop(root), NONE);
                due("number(" + root + ")", Boundary.numberThrows(x, root), true);
            }
            due("roots", x.count(6), 4);
        }

        // ---- 9: rootAt

        static void p09_notSoMany() {
            at(9, "The i-th ROOT that there is; NONE: there are not so many.");
            CombinatorRing x = Boundary.of(ROOTS_14 + "o~p;");
            for (int i = 0; i < 16; i++) {
                due("rootAt(" + i + ")", x.rootAt(i), i);
            }
            due("beyond", x.rootAt(16), NONE);
            x.join(0, 15);
            due("the first one there is", x.rootAt(0), 1);
            due("the last one", x.rootAt(13), 14);
            for (int i : new int[] {-1, 14, 15, LEAST, GREATEST}) {
                due("rootAt(" + i + ")", x.rootAt(i), NONE);
            }
            due("of none", new CombinatorRing().rootAt(0), NONE);
        }

        // ---- 10: pair

        static void p10_byX() {
            at(10, "The k-th PAIR by X (from 0), what 0: X, 1: Y, 2: the RULE, 3: 1 if it can be REDUCED now;");
            CombinatorRing x = Boundary.of("memory 8;a~*;[b c]~(d e);a~(f *);*~*;");
            int[][] want = {{0, 3, 3, 1}, {1, 2, 5, 0}, {5, 6, 0, 1}};
            for (int k = 0; k < 3; k++) {
                for (int what = 0; what < 4; what++) {
                    due("pair(" + k + ", " + what + ")", x.pair(k, what), want[k][what]);
                }
            }
            x.reduce(5);
            due("there is room now", x.pair(1, 3), 1);
            x = Boundary.of("memory 300;" + "*~*;".repeat(122));
            due("the last one of many", x.pair(121, 0), 242);
            due("beyond them", x.pair(122, 0), NONE);
            for (int k : new int[] {31, 32, 33, 63, 64, 65, 95, 96}) {
                due("pair(" + k + ", 0)", x.pair(k, 0), 2 * k);
            }
        }

        static void p10_noneSuch() {
            at(10, "NONE: none such, others.");
            CombinatorRing x = Boundary.of("*~*;*~*;");
            for (int k : new int[] {-1, 2, 3, 300, LEAST, GREATEST}) {
                due("pair(" + k + ", 0)", x.pair(k, 0), NONE);
                due("pair(" + k + ", 3)", x.pair(k, 3), NONE);
            }
            for (int what : new int[] {-1, 4, 5, LEAST, GREATEST}) {
                due("pair(0, " + what + ")", x.pair(0, what), NONE);
            }
        }

        // ---- 11: next

        static void p11_freedThenNeverGiven() {
            at(11, "The k-th of the numbers that are given next (0: the very next one; those that were FREED, then those"
                + " never given);");
            CombinatorRing x = Boundary.of("memory 8;*~*;*~*;a~*;");
            x.reduce(0);
            x.reduce(2);
            int[] want = {3, 2, 1, 0, 5, 6, 7};
            for (int k = 0; k < want.length; k++) {
                due("next(" + k + ")", x.next(k), want[k]);
            }
            x.put(0, 2);
            due("behind five", x.next(0), 6);
        }

        static void p11_hasNotSoMany() {
            at(11, "NONE: MEMORY has not so many.");
            CombinatorRing x = Boundary.of("memory 8;*~*;a~*;");
            x.reduce(0);
            due("the last one", x.next(6), 7);
            for (int k : new int[] {7, 8, 300, GREATEST, -1, -2, LEAST}) {
                due("next(" + k + ")", x.next(k), NONE);
            }
            due("full", Boundary.of(FULL).next(0), NONE);
            due("one is left", Boundary.of(ROOM_FOR_1).next(0), 7);
            due("just one", Boundary.of(ROOM_FOR_1).next(1), NONE);
            due("the greatest of all", Boundary.of("memory 300;").next(299), 299);
            due("beyond it", Boundary.of("memory 300;").next(300), NONE);
        }

        // ---- 12: number

        static void p12_readAtARoot() {
            at(12, "The NUMBER that is READ at a ROOT; -2: none;");
            CombinatorRing x = Boundary.of("a~#0;b~#20;c~(* #20);d~[* *];e~f;(g *)~*;h~(* i);");
            int[] want = {0, 20, 21, -2, -2, -2, -2, -2, -2};
            for (int root = 0; root < want.length; root++) {
                due("number(" + root + ")", x.number(root), want[root]);
            }
        }

        static void p12_noSuchRoot() {
            at(12, "NoSuchElementException: there is no such ROOT.");
            CombinatorRing x = Boundary.of("a~#0;b~c;");
            x.drop(1);
            due("one that is gone", Boundary.numberThrows(x, 1), true);
            for (int root : new int[] {-1, 3, 15, 16, 17, LEAST, GREATEST}) {
                due("number(" + root + ")", Boundary.numberThrows(x, root), true);
            }
            due("one that there is", Boundary.numberThrows(x, 2), false);
            due("none is there", Boundary.numberThrows(new CombinatorRing(), 0), true);
        }

        // ---- 13: list

        static void p13_theIthOrHowMany() {
            at(13, "The i-th NUMBER of the list that is READ at a ROOT; how many (i NONE);");
            CombinatorRing x = Boundary.of("a~<9 0 1>;b~<>;");
            due("how many", x.list(0, NONE), 3);
            due("the first", x.list(0, 0), 9);
            due("the second", x.list(0, 1), 0);
            due("the last", x.list(0, 2), 1);
            due("none are in it", x.list(1, NONE), 0);
        }

        static void p13_noneNotSoMany() {
            at(13, "-2: none, not so many;");
            CombinatorRing x = Boundary.of("a~<9 0 1>;b~<>;c~[* *];d~e;");
            for (int i : new int[] {3, 4, 300, GREATEST, -2, LEAST}) {
                due("list(0, " + i + ")", x.list(0, i), -2);
            }
            due("of an empty one", x.list(1, 0), -2);
            for (int root = 2; root <= 4; root++) {
                for (int i = -1; i <= 1; i++) {
                    due("list(" + root + ", " + i + ")", x.list(root, i), -2);
                }
            }
        }

        static void p13_noSuchRoot() {
            at(13, "NoSuchElementException: there is no such ROOT.");
            CombinatorRing x = Boundary.of("a~<1>;b~c;");
            x.drop(1);
            for (int root : new int[] {1, -1, 3, 15, 16, 17, LEAST, GREATEST}) {
                due("list(" + root + ", 0)", Boundary.listThrows(x, root, 0), true);
                due("list(" + root + ", NONE)", Boundary.listThrows(x, root, NONE), true);
                due("list(" + root + ", LEAST)", Boundary.listThrows(x, root, LEAST), true);
            }
            due("one that there is", Boundary.listThrows(x, 0, GREATEST), false);
        }

        // ---- 14: seen

        static void p14_howMany() {
            at(14, "How many NODES are SEEN FROM ROOTS.");
            due("none", new CombinatorRing().seen(), 0);
            due("no roots", Boundary.of("*~(* *);").seen(), 0);
            due("roots alone", Boundary.of("a~b;").seen(), 0);
            due("one twice come to", Boundary.of("a~(b c);").seen(), 1);
            due("round about", Boundary.of("r~(a b);s~(b a);*~*;").seen(), 2);
            due("all that memory has", Boundary.of("memory 300;(a #20)~#20;(b #20)~#20;(c #20)~#20;"
                + "(d #12)~#12;").seen(), 300);
        }

        static void p14_allOfMemoryWithoutErasers() {
            at(14, "How many NODES are SEEN FROM ROOTS.");
            CombinatorRing x = Boundary.of("memory 300;(a b)~[a c];");
            x.run(0, 9999, 0);
            due("memory is full", x.count(1), 300);
            due("all hang together", x.seen(), 300);
            boolean[] met = new boolean[300];
            for (int i = 0; i < 300; i++) {
                int node = x.met(i, 0);
                due("met(" + i + ", 0) is there, once", node >= 0 && node < 300 && !met[node], true);
                met[Math.max(0, node)] = true;
            }
            due("no more", x.met(300, 0), NONE);
        }

        // ---- 15: met

        static void p15_theIth() {
            at(15, "The i-th NODE that is met so, what 0: its number, 1: by which PORT it is met;");
            CombinatorRing x = Boundary.of("*~*;(* r)~[a a];");
            int[] nodes = {2, 4, 3};
            int[] ports = {2, 0, 0};
            for (int i = 0; i < 3; i++) {
                due("met(" + i + ", 0)", x.met(i, 0), nodes[i]);
                due("met(" + i + ", 1)", x.met(i, 1), ports[i]);
            }
        }

        static void p15_notSoMany() {
            at(15, "NONE: not so many, others.");
            CombinatorRing x = Boundary.of("a~#1;*~*;");
            for (int i : new int[] {-1, 3, 4, 300, LEAST, GREATEST}) {
                due("met(" + i + ", 0)", x.met(i, 0), NONE);
                due("met(" + i + ", 1)", x.met(i, 1), NONE);
            }
            for (int what : new int[] {-1, 2, 3, LEAST, GREATEST}) {
                due("met(0, " + what + ")", x.met(0, what), NONE);
            }
            due("none are", Boundary.of("*~*;").met(0, 0), NONE);
        }

        // ---- 16: run

        static void p16_mostAtMost() {
            at(16, "STEPS by an ORDER, most at most (0 to 9999), a SEED: how many were;");
            for (int order = 0; order < 3; order++) {
                CombinatorRing x = Boundary.of("*~*;*~*;");
                due("0", x.run(order, 0, GREATEST), 0);
                due("nothing went", x.count(4), 2);
                due("1", x.run(order, 1, LEAST), 1);
                due("one went", x.count(4), 1);
                due("9999", x.run(order, 9999, -1), 1);
                due("none is left", x.run(order, 9999, 0), 0);
                due("all four are kept", x.count(12), 4);
            }
            due("9999 of more", Boundary.of(ENDLESS).run(1, 9999, 0), 9999);
            due("9998", Boundary.of(ENDLESS).run(2, 9998, 0), 9998);
        }

        static void p16_others() {
            at(16, "NONE: others.");
            CombinatorRing x = Boundary.of("memory 8;*~*;a~*;");
            String ahead = Boundary.state(x);
            for (int order : new int[] {-1, 3, 4, LEAST, GREATEST}) {
                due("run(" + order + ", 1, 0)", x.run(order, 1, 0), NONE);
            }
            for (int most : new int[] {-1, 10000, LEAST, GREATEST}) {
                for (int order = 0; order < 3; order++) {
                    due("run(" + order + ", " + most + ", 0)", x.run(order, most, 0), NONE);
                }
            }
            Boundary.same("nothing happens", Boundary.state(x), ahead);
        }

        // ---- 17: round

        static void p17_howMany() {
            at(17, "A ROUND: how many PAIRS were REDUCED.");
            CombinatorRing x = Boundary.of("a~*;");
            due("none", x.round(), 0);
            due("it is kept", x.count(12), 1);
            due("none that can be", Boundary.of("memory 8;[a b]~#3;").round(), 0);
            due("all", Boundary.of("memory 300;" + "*~*;".repeat(122)).round(), 122);
            due("but one", Boundary.of("memory 9;*~*;[a b]~(c d);[e f]~(g h);i~*;j~*;").round(), 2);
        }

        // ---- 18: reduce

        static void p18_itsRule() {
            at(18, "The PAIR with X such a NODE is REDUCED: its RULE;");
            CombinatorRing x = Boundary.of("*~*;(a b)~*;");
            due("not the first one", x.reduce(2), 3);
            due("the first one stays", x.pair(0, 0), 0);
            due("two erasers: 0, not NONE", x.reduce(0), 0);
            x = Boundary.of("memory 300;" + "*~#20;".repeat(7) + "*~*;*~*;*~*;");
            due("the greatest X", x.reduce(298), 0);
        }

        static void p18_noneSuch() {
            at(18, "NONE: there is none such, it can't be.");
            CombinatorRing x = Boundary.of("memory 8;*~*;[a b]~(c d);e~#1;");
            String ahead = Boundary.state(x);
            for (int node : new int[] {1, 3, 4, 5, 7, 8, 200, 299, 300, 320, -1, -64, LEAST, GREATEST}) {
                due("reduce(" + node + ")", x.reduce(node), NONE);
            }
            due("no room", x.reduce(2), NONE);
            Boundary.same("nothing happens", Boundary.state(x), ahead);
            x.reduce(0);
            due("one that is gone", x.reduce(0), NONE);
        }

        // ---- 19: tried

        static void p19_inThought() {
            at(19, "In thought: STEPS as run() would, what 0: how many,");
            CombinatorRing x = Boundary.of("memory 20;[* *]~(* *);*~*;");
            String ahead = Boundary.state(x);
            for (int order = 0; order < 3; order++) {
                due("all", x.tried(order, 9999, 7, 0), 10);
                due("none", x.tried(order, 0, 7, 0), 0);
                due("one", x.tried(order, 1, LEAST, 0), 1);
            }
            Boundary.same("nothing happens", Boundary.state(x), ahead);
            due("9999 at most", Boundary.of(ENDLESS).tried(0, 9999, 0, 0), 9999);
            due("as run() would", x.run(2, 9999, 7), 10);
        }

        static void p19_theMostNodes() {
            at(19, "1: the most NODES there were at once (ahead, too),");
            due("ahead", Boundary.of("*~*;*~*;").tried(0, 9999, 0, 1), 4);
            due("ahead, without a step", Boundary.of("(a b)~[c d];").tried(0, 0, 0, 1), 2);
            due("behind", Boundary.of("(a b)~[c d];").tried(0, 1, 0, 1), 4);
            due("between", Boundary.of("(* *)~[* *];").tried(0, 9999, 0, 1), 8);
            due("all of memory", Boundary.of("memory 8;(* *)~[* *];").tried(0, 9999, 0, 1), 8);
            due("nothing", new CombinatorRing().tried(0, 9999, 0, 1), 0);
            due("one with the least X first", Boundary.of("*~*;(a b)~[c d];").tried(0, 9, 0, 1), 4);
            due("one with the greatest X first", Boundary.of("*~*;(a b)~[c d];").tried(1, 9, 0, 1), 6);
        }

        static void p19_pairsLeft() {
            at(19, "2: PAIRS that are left;");
            due("all", Boundary.of("*~*;*~*;").tried(0, 0, 0, 2), 2);
            due("one", Boundary.of("*~*;*~*;").tried(0, 1, 0, 2), 1);
            due("none", Boundary.of("*~*;*~*;").tried(0, 2, 0, 2), 0);
            due("that can't be, too", Boundary.of("memory 8;[a b]~#3;").tried(0, 9, 0, 2), 1);
            due("new ones", Boundary.of("(* *)~(* *);").tried(0, 1, 0, 2), 2);
        }

        static void p19_others() {
            at(19, "NONE: others.");
            CombinatorRing x = Boundary.of("*~*;");
            for (int bad : new int[] {-1, 3, LEAST, GREATEST}) {
                due("order " + bad, x.tried(bad, 1, 0, 0), NONE);
                due("what " + bad, x.tried(0, 1, 0, bad), NONE);
            }
            for (int most : new int[] {-1, 10000, LEAST, GREATEST}) {
                for (int what = 0; what < 3; what++) {
                    due("most " + most, x.tried(2, most, 0, what), NONE);
                }
            }
        }

        // ---- 20: rounds

        static void p20_theLastIsntCounted() {
            at(20, "In thought: how many ROUNDS till one in which none is REDUCED (this isn't counted),");
            due("no pair", Boundary.of("a~*;").rounds(), 0);
            due("none that can be", Boundary.of("memory 8;[a b]~#3;").rounds(), 0);
            due("one", Boundary.of("*~*;*~*;").rounds(), 1);
            CombinatorRing x = Boundary.of("(* *)~(* *);*~*;");
            String ahead = Boundary.state(x);
            due("two", x.rounds(), 2);
            Boundary.same("nothing happens", Boundary.state(x), ahead);
        }

        static void p20_fiveHundredAtMost() {
            at(20, "500 at most; -2: more.");
            CombinatorRing x = Boundary.of("memory 206;b~[a c];f~(h d);g~[e c];g~(a e);d~*;f~[b h];");
            due("501", x.rounds(), -2);
            due("one of them goes", x.round() > 0, true);
            due("500", x.rounds(), 500);
            due("another one goes", x.round() > 0, true);
            due("499", x.rounds(), 499);
            due("without end", Boundary.of(ENDLESS).rounds(), -2);
        }

        // ---- 21: alike

        static void p21_oneOrNought() {
            at(21, "In thought: 1 if the NETS to which two ORDERS come (SEEDS both s) by STEPS, most at most (0 to 9999)"
                + " each, are ALIKE, 0;");
            CombinatorRing x = Boundary.of("memory 8;[a b]~(c d);[e f]~(g h);i~*;j~*;");
            String ahead = Boundary.state(x);
            due("room for the one or the other", x.alike(0, 1, 9999, 0), 0);
            due("turned", x.alike(1, 0, 9999, 0), 0);
            due("the same one", x.alike(1, 1, 9999, 0), 1);
            due("both by the same seed", x.alike(2, 2, 9999, GREATEST), 1);
            due("just so many steps", x.alike(0, 1, 1, 0), 0);
            Boundary.same("nothing happens", Boundary.state(x), ahead);
            // With seed 0 the first one of two is drawn, with seed 3 the other one.
            due("seed 0 and the least", x.alike(2, 0, 9999, 0), 1);
            due("seed 0 and the greatest", x.alike(2, 1, 9999, 0), 0);
            due("seed 3 and the greatest", x.alike(1, 2, 9999, 3), 1);
            due("seed 3 and the least", x.alike(0, 2, 9999, 3), 0);
            due("no steps", Boundary.of("a~*;").alike(0, 1, 0, 0), 1);
        }

        static void p21_pairsAreLeft() {
            at(21, "-2: with one of them PAIRS that can be REDUCED are left.");
            CombinatorRing x = Boundary.of("*~*;*~*;a~*;");
            due("two of two", x.alike(0, 1, 2, 0), 1);
            due("one of two", x.alike(0, 1, 1, 0), -2);
            due("none of two", x.alike(0, 0, 0, 0), -2);
            due("that can't be", Boundary.of("memory 8;[a b]~#3;").alike(0, 1, 9999, 0), 1);
            due("without end", Boundary.of(ENDLESS).alike(0, 0, 9999, 0), -2);
        }

        static void p21_withOneOfThemAlone() {
            at(21, "-2: with one of them PAIRS that can be REDUCED are left.");
            // The erasers go first. The least X then takes the room; the greatest, too, and goes on with two more.
            CombinatorRing x = Boundary.of("memory 8;[a b]~(c d);[e f]~(* *);*~*;");
            due("steps by the least", x.tried(0, 9999, 0, 0), 2);
            due("steps by the greatest", x.tried(1, 9999, 0, 0), 4);
            due("the other one isn't through", x.alike(0, 1, 3, 0), -2);
            due("the first one isn't through", x.alike(1, 0, 3, 0), -2);
            due("both are through", x.alike(0, 1, 4, 0), 0);
            due("the one that is through in time", x.alike(0, 0, 2, 0), 1);
        }

        static void p21_others() {
            at(21, "NONE: others;");
            CombinatorRing x = Boundary.of("*~*;");
            for (int bad : new int[] {-1, 3, LEAST, GREATEST}) {
                due("order " + bad, x.alike(bad, 0, 1, 0), NONE);
                due("other " + bad, x.alike(0, bad, 1, 0), NONE);
                due("ahead of -2", x.alike(0, bad, 0, 0), NONE);
            }
            for (int most : new int[] {-1, 10000, LEAST, GREATEST}) {
                due("most " + most, x.alike(0, 1, most, 0), NONE);
            }
        }

        // ---- 22: likeImage

        static void p22_oneOrNought() {
            at(22, "1 if the NET and that of an IMAGE are ALIKE, 0;");
            CombinatorRing x = Boundary.of("a~b;*~*;");
            x.image(0, false);
            due("itself", x.likeImage(0), 1);
            x.reduce(0);
            due("nothing else is seen", x.likeImage(0), 1);
            x.drop(1);
            due("a root less", x.likeImage(0), 0);
            x.image(1, false);
            due("the other image", x.likeImage(1), 1);
            x.undo();
            due("each its own: 0", x.likeImage(0), 1);
            due("each its own: 1", x.likeImage(1), 0);
        }

        static void p22_nothingIsInIt() {
            at(22, "NONE: nothing is in it, none such.");
            CombinatorRing x = Boundary.of("a~*;");
            due("image 0", x.likeImage(0), NONE);
            due("image 1", x.likeImage(1), NONE);
            x.image(1, false);
            due("image 0 still", x.likeImage(0), NONE);
            due("image 1 now", x.likeImage(1), 1);
            x.image(0, false);
            for (int k : new int[] {-1, 2, 3, LEAST, GREATEST}) {
                due("likeImage(" + k + ")", x.likeImage(k), NONE);
            }
            x.net(0);
            due("a new net", x.likeImage(0), NONE);
        }

        // ---- 23: put

        static void p23_linkedToWhatTheRootIsLinkedTo() {
            at(23, "The TREE of a NUMBER (0 to 20) is LINKED to what a ROOT is LINKED to; the ROOT is gone: how many NODES"
                + " there are;");
            CombinatorRing x = Boundary.of("a~b;c~(d e);");
            due("0", x.put(0, 0), 2);
            due("at the other root", x.number(1), 0);
            due("the root is gone", x.root(0), NONE);
            due("20", x.put(2, 20), 43);
            due("a pair", x.pair(0, 2), 1);
            due("roots", x.count(6), 3);
            due("at a port", x.put(3, 1), 46);
            due("that port", x.link(0, 1), 3 * 43);
            Boundary.linkedBothWays(x);
        }

        static void p23_madeInOrder() {
            at(23, "The TREE of a NUMBER (0 to 20) is LINKED");
            CombinatorRing x = Boundary.of("*~*;a~b;");
            x.reduce(0);
            x.put(1, 2);
            due("its head by the number freed last", x.root(0), 3);
            int[] kinds = {0, 1, 1, 0, 0};
            for (int node = 0; node < kinds.length; node++) {
                due("kind of " + node, x.kind(node), kinds[node]);
            }
        }

        static void p23_refused() {
            at(23, "NONE, and nothing happens: no such ROOT, others, no room.");
            CombinatorRing x = Boundary.of("memory 20;a~b;c~#1;*~*;");
            x.drop(0);
            x.reduce(3);
            String ahead = Boundary.state(x);
            for (int root : new int[] {0, -1, 3, 15, 16, LEAST, GREATEST}) {
                due("put(" + root + ", 1)", x.put(root, 1), NONE);
            }
            for (int number : new int[] {-1, 21, LEAST, GREATEST}) {
                due("put(1, " + number + ")", x.put(1, number), NONE);
            }
            due("no room for 17", x.put(1, 8), NONE);
            Boundary.same("nothing happens", Boundary.state(x), ahead);
            due("room for 15", x.put(1, 7), 19);
        }

        static void p23_justRoom() {
            at(23, "NONE, and nothing happens: no such ROOT, others, no room.");
            due("one", Boundary.of(ROOM_FOR_1).put(1, 0), 8);
            due("three in one", Boundary.of(ROOM_FOR_1).put(1, 1), NONE);
            due("one in none", Boundary.of(FULL).put(1, 0), NONE);
            due("41", Boundary.of("memory 42;a~*;").put(0, 20), 42);
            due("41 in 40", Boundary.of("memory 41;a~*;").put(0, 20), NONE);
        }

        // ---- 24: split

        static void p24_twoNewRoots() {
            at(24, "A PAIRER's HEAD likewise; its PORTS 1, 2 are two new ROOTS: the first one's number;");
            CombinatorRing x = Boundary.of("a~#1;b~c;");
            due("the first one", x.split(0), 3);
            due("port 1", x.root(3), 3 * 3 + 1);
            due("port 2", x.root(4), 3 * 3 + 2);
            due("the root is gone", x.root(0), NONE);
            due("a pairer", x.kind(3), 1);
            due("a pair", x.pair(0, 2), 1);
            due("at a root", x.split(2), 5);
            due("its head", x.root(1), 3 * 4);
        }

        static void p24_likewise() {
            at(24, "NONE likewise, and beyond 16 ROOTS.");
            due("room for one", Boundary.of(ROOM_FOR_1).split(2), 3);
            CombinatorRing x = Boundary.of(FULL);
            String ahead = Boundary.state(x);
            due("no room", x.split(2), NONE);
            for (int root : new int[] {-1, 4, 15, 16, LEAST, GREATEST}) {
                due("split(" + root + ")", x.split(root), NONE);
            }
            Boundary.same("nothing happens", Boundary.state(x), ahead);
            x = Boundary.of("a~b;");
            x.drop(0);
            due("one that is gone", x.split(0), NONE);
        }

        static void p24_beyondSixteen() {
            at(24, "NONE likewise, and beyond 16 ROOTS.");
            beyondSixteen(1);
        }

        private static void beyondSixteen(int kind) {
            CombinatorRing x = Boundary.of(ROOTS_14);
            due("just sixteen", branch(x, 0, kind), 14);
            due("the last one", x.root(15), 2);
            due("its kind", x.kind(0), kind);
            String ahead = Boundary.state(x);
            due("beyond", branch(x, 1, kind), NONE);
            Boundary.same("nothing happens", Boundary.state(x), ahead);
            x = Boundary.of(ROOTS_14 + "o~*;");
            due("fifteen and two", branch(x, 14, kind), NONE);
            x.join(0, 2);
            x.join(4, 6);
            due("those that are gone count", branch(x, 14, kind), NONE);
            x = Boundary.of(ROOTS_14);
            branch(x, 0, kind);
            x.undo();
            due("those taken back don't", branch(x, 1, kind), 14);
        }

        private static int branch(CombinatorRing x, int root, int kind) {
            return kind == 1 ? x.split(root) : x.twice(root);
        }

        // ---- 25: twice

        static void p25_aDoublerLikewise() {
            at(25, "A DOUBLER likewise.");
            CombinatorRing x = Boundary.of("a~#1;b~c;");
            due("the first one", x.twice(0), 3);
            due("port 1", x.root(3), 3 * 3 + 1);
            due("port 2", x.root(4), 3 * 3 + 2);
            due("the root is gone", x.root(0), NONE);
            due("a doubler", x.kind(3), 2);
            due("a pair", x.pair(0, 2), 5);
            due("at a root", x.twice(2), 5);
            due("its head", x.root(1), 3 * 4);
        }

        static void p25_refusedLikewise() {
            at(25, "A DOUBLER likewise.");
            due("room for one", Boundary.of(ROOM_FOR_1).twice(2), 3);
            CombinatorRing x = Boundary.of(FULL);
            String ahead = Boundary.state(x);
            due("no room", x.twice(2), NONE);
            for (int root : new int[] {-1, 4, 15, 16, LEAST, GREATEST}) {
                due("twice(" + root + ")", x.twice(root), NONE);
            }
            Boundary.same("nothing happens", Boundary.state(x), ahead);
            x = Boundary.of("a~b;");
            x.drop(0);
            due("one that is gone", x.twice(0), NONE);
        }

        static void p25_beyondSixteenLikewise() {
            at(25, "A DOUBLER likewise.");
            beyondSixteen(2);
        }

        // ---- 26: drop

        static void p26_anErasersHead() {
            at(26, "An ERASER's HEAD likewise: how many NODES there are;");
            CombinatorRing x = Boundary.of("a~#1;b~c;");
            due("nodes", x.drop(0), 4);
            due("an eraser", x.kind(3), 0);
            due("a pair", x.pair(0, 1), 3);
            due("the root is gone", x.root(0), NONE);
            due("at a root", x.drop(1), 5);
            due("read there", x.number(2), 0);
        }

        static void p26_noneLikewise() {
            at(26, "NONE likewise.");
            due("room for one", Boundary.of(ROOM_FOR_1).drop(2), 8);
            CombinatorRing x = Boundary.of(FULL);
            String ahead = Boundary.state(x);
            due("no room", x.drop(2), NONE);
            for (int root : new int[] {-1, 4, 15, 16, LEAST, GREATEST}) {
                due("drop(" + root + ")", x.drop(root), NONE);
            }
            Boundary.same("nothing happens", Boundary.state(x), ahead);
            x = Boundary.of("a~b;");
            x.drop(0);
            due("one that is gone", x.drop(0), NONE);
            due("sixteen roots don't matter", Boundary.of(ROOTS_14 + "o~p;").drop(15), 1);
        }

        // ---- 27: join

        static void p27_linked() {
            at(27, "What two ROOTS (unlike) are LINKED to is LINKED");
            CombinatorRing x = Boundary.of("a~*;b~(c d);e~f;");
            due("heads", x.join(0, 1), 4);
            due("a pair", x.pair(0, 2), 3);
            due("over a root", x.join(2, 4), 2);
            due("over a root", x.root(5), 3 + 1);
            due("its own node's ports", x.join(3, 5), 0);
            due("its own node's ports", x.link(1, 1), 3 + 2);
            due("no loop", x.count(8), 0);
            Boundary.linkedBothWays(x);
        }

        static void p27_needsNoRoom() {
            at(27, "both are gone: how many ROOTS there are;");
            CombinatorRing x = Boundary.of(FULL);
            due("full", x.join(0, 3), 2);
            due("gone", x.root(0) + x.root(3), 2 * NONE);
            due("nodes stay", x.count(1), 8);
            due("all sixteen", Boundary.of(ROOTS_14 + "o~p;").join(0, 15), 14);
        }

        static void p27_toEachOther() {
            at(27, "(a LOOP, if to each other)");
            CombinatorRing x = Boundary.of("a~b;c~d;");
            due("roots", x.join(1, 0), 2);
            due("a loop", x.count(8), 1);
            due("one way", x.join(2, 3), 0);
            due("two loops", x.count(8), 2);
            x.undo();
            due("taken back", x.count(8), 1);
            due("linked again", x.root(2), 1003);
        }

        static void p27_noneSuch() {
            at(27, "NONE: none such.");
            CombinatorRing x = Boundary.of("memory 8;a~b;c~d;e~*;");
            x.drop(4);
            String ahead = Boundary.state(x);
            for (int root : new int[] {4, 5, -1, 15, 16, LEAST, GREATEST}) {
                due("join(0, " + root + ")", x.join(0, root), NONE);
                due("join(" + root + ", 0)", x.join(root, 0), NONE);
            }
            for (int root : new int[] {0, 1, 4, 16, -1}) {
                due("join(" + root + ", " + root + ")", x.join(root, root), NONE);
            }
            Boundary.same("nothing happens", Boundary.state(x), ahead);
        }

        // ---- 28: undo

        static void p28_butForTapeAndImages() {
            at(28, "The latest is taken back (as all was, but for THE TAPE, IMAGES): how many still can be;");
            CombinatorRing x = Boundary.of("memory 20;*~*;[a b]~(c *);d~e;");
            String first = Boundary.net(x);
            x.run(0, 9, 0);
            String second = Boundary.net(x);
            x.join(3, 4);
            x.feed(BLANKS, BLANKS, BLANKS, BLANKS, BLANKS);
            x.image(1, false);
            due("one still can be", x.undo(), 1);
            Boundary.same("as it was", Boundary.net(x), second);
            due("the tape stays", x.count(13), 20);
            due("images stay", x.count(11), 1);
            due("as they were laid", x.likeImage(1), 0);
            due("none still can be", x.undo(), 0);
            Boundary.same("as it was", Boundary.net(x), first);
        }

        static void p28_none() {
            at(28, "NONE: none.");
            CombinatorRing x = Boundary.of("*~*;");
            String ahead = Boundary.state(x);
            due("ahead of all", x.undo(), NONE);
            Boundary.same("nothing happens", Boundary.state(x), ahead);
            x.round();
            due("one", x.undo(), 0);
            due("none", x.undo(), NONE);
            Boundary.same("nothing happens", Boundary.state(x), ahead);
        }

        static void p28_aRingOfTwelve() {
            at(28, "The latest is taken back");
            CombinatorRing x = Boundary.of("*~*;".repeat(60));
            for (int step = 0; step < 18; step++) {
                x.run(0, 1, 0);
            }
            for (int back = 1; back <= 5; back++) {
                due("undo " + back, x.undo(), 12 - back);
                due("pairs", x.count(4), 42 + back);
            }
            for (int step = 1; step <= 8; step++) {
                x.run(1, 2, 0);
                due("kept", x.count(12), Math.min(12, 7 + step));
            }
            due("pairs", x.count(4), 31);
            for (int back = 1; back <= 8; back++) {
                due("undo", x.undo(), 12 - back);
                due("pairs", x.count(4), 31 + 2 * back);
            }
            for (int back = 1; back <= 4; back++) {
                due("undo of the older ones", x.undo(), 4 - back);
                due("pairs", x.count(4), 47 + back);
            }
            due("none", x.undo(), NONE);
        }

        static void p28_undoIsntTakenBack() {
            at(28, "The latest is taken back");
            CombinatorRing x = Boundary.of("*~*;*~*;");
            x.reduce(0);
            x.undo();
            due("nothing is kept of it", x.count(12), 0);
            x.reduce(2);
            due("on from there", x.count(12), 1);
            x.undo();
            due("as at first", x.count(4), 2);
        }

        // ---- 29: image

        static void p29_laid() {
            at(29, "IMAGE k is laid");
            CombinatorRing x = Boundary.of("*~*;*~*;");
            x.reduce(0);
            String ahead = Boundary.net(x);
            due("image 0", x.image(0, false), true);
            due("image 1", x.image(1, false), true);
            Boundary.same("the net stays", Boundary.net(x), ahead);
            due("what can be taken back stays", x.count(12), 1);
            x.reduce(2);
            due("laid again", x.image(0, false), true);
            x.image(1, true);
            due("the older one", x.count(4), 1);
            x.image(0, true);
            due("the newer one", x.count(4), 0);
        }

        static void p29_back() {
            at(29, "(back: all is as in it, nothing can be taken back): true;");
            CombinatorRing x = Boundary.of("memory 20;*~*;[a b]~(c *);d~e;");
            x.reduce(0);
            x.image(0, false);
            String laid = Boundary.net(x);
            x.run(0, 9, 0);
            x.join(3, 4);
            x.feed(BLANKS, BLANKS, BLANKS, BLANKS, BLANKS);
            due("back", x.image(0, true), true);
            Boundary.same("all is as in it", Boundary.net(x), laid);
            due("nothing can be taken back", x.count(12), 0);
            due("undo()", x.undo(), NONE);
            due("the tape stays", x.count(13), 20);
            due("it still holds", x.count(11), 1);
            x.run(0, 9, 0);
            due("steps can be again", x.undo(), 0);
            Boundary.same("as in it", Boundary.net(x), laid);
            due("once more", x.image(0, true), true);
            Boundary.same("as in it", Boundary.net(x), laid);
        }

        static void p29_noneSuch() {
            at(29, "false: none such, (back) nothing is in it.");
            CombinatorRing x = Boundary.of("memory 9;*~*;");
            x.reduce(0);
            String ahead = Boundary.state(x);
            for (int k : new int[] {-1, 2, 3, LEAST, GREATEST}) {
                due("image(" + k + ", false)", x.image(k, false), false);
                due("image(" + k + ", true)", x.image(k, true), false);
            }
            due("nothing is in 0", x.image(0, true), false);
            due("nothing is in 1", x.image(1, true), false);
            Boundary.same("nothing happens", Boundary.state(x), ahead);
            x.image(0, false);
            due("nothing is in 1 still", x.image(1, true), false);
            due("what can be taken back stays", x.count(12), 1);
            x.net(0);
            due("nothing is in 0 behind net()", x.image(0, true), false);
        }

        // ---- short names for what each test uses

        private static void at(int promise, String sentence) {
            Boundary.at("Promise " + promise + ":", sentence);
        }

        private static void due(String what, long got, long want) {
            Boundary.due(what, got, want);
        }

        private static void due(String what, boolean got, boolean want) {
            Boundary.due(what, got, want);
        }
    }
}
