import java.util.NoSuchElementException;

/** Each promise of the document by hand: ordinary inputs, the edges it names, wrong inputs. */
public final class PromiseTest {
    private static final int NONE = CombinatorRing.NONE;
    private static final int LEAST = Integer.MIN_VALUE;
    private static final int GREATEST = Integer.MAX_VALUE;
    private static int wrong = 0;

    public static void main(String[] args) {
        newObject();
        feed();
        net();
        numbersAndListsInTexts();
        namesInTexts();
        faultsOfTokens();
        faultsOfNumbersAndDepth();
        faultsOfMemory();
        faultsOfRoots();
        count();
        rule();
        kind();
        link();
        root();
        rootAt();
        pair();
        next();
        number();
        list();
        seen();
        met();
        run();
        drawnRun();
        rulesWithinThemselves();
        round();
        reduce();
        tried();
        rounds();
        alike();
        likeImage();
        put();
        split();
        twice();
        drop();
        join();
        undo();
        image();
        System.out.println(wrong == 0 ? "all answers are as due" : wrong + " answers are not as due");
        if (wrong != 0) {
            System.exit(1);
        }
    }

    // ---- help

    private static void due(String what, long got, long want) {
        if (got != want) {
            wrong++;
            System.out.println(what + " answered " + got + ", due is " + want);
        }
    }

    private static void due(String what, boolean got, boolean want) {
        due(what, got ? 1 : 0, want ? 1 : 0);
    }

    private static void feedText(CombinatorRing x, String text) {
        for (int i = 0; i < text.length(); i += 20) {
            int[] v = new int[5];
            for (int k = 0; k < 20; k++) {
                int sign = i + k < text.length() ? text.charAt(i + k) : ' ';
                v[k / 4] = v[k / 4] << 8 | sign;
            }
            x.feed(v[0], v[1], v[2], v[3], v[4]);
        }
    }

    private static int read(CombinatorRing x, String text) {
        feedText(x, text);
        return x.net(text.length());
    }

    private static CombinatorRing of(String text) {
        CombinatorRing x = new CombinatorRing();
        int nodes = read(x, text);
        if (nodes < 0) {
            wrong++;
            System.out.println("the text was refused with " + nodes + ": " + text);
        }
        return x;
    }

    private static void fault(String text, int place, int kind) {
        due("fault of " + text, read(new CombinatorRing(), text), -2 - (8 * place + kind));
    }

    private static void fine(String text, int nodes) {
        due("nodes of " + text, read(new CombinatorRing(), text), nodes);
    }

    private static String times(int n, String s) {
        return s.repeat(n);
    }

    private static boolean numberThrows(CombinatorRing x, int root) {
        try {
            x.number(root);
            return false;
        } catch (NoSuchElementException e) {
            return true;
        }
    }

    private static boolean listThrows(CombinatorRing x, int root, int i) {
        try {
            x.list(root, i);
            return false;
        } catch (NoSuchElementException e) {
            return true;
        }
    }

    // ---- promises

    private static void newObject() {
        CombinatorRing x = new CombinatorRing();
        int[] want = {200, 0, 0, 0, 0, 0, 0, 0, 0, 0, NONE, 0, 0, 0};
        for (int what = 0; what < want.length; what++) {
            due("1: count(" + what + ")", x.count(what), want[what]);
        }
        for (int rule = 0; rule < 6; rule++) {
            due("1: rule(" + rule + ")", x.rule(rule), 0);
        }
        due("1: seen()", x.seen(), 0);
        due("1: undo()", x.undo(), NONE);
    }

    private static void feed() {
        CombinatorRing x = new CombinatorRing();
        for (int i = 1; i <= 25; i++) {
            due("2: feed " + i, x.feed(0x20202020, 0x20202020, 0x20202020, 0x20202020, 0x20202020), 20 * i);
        }
        due("2: a tape that is full", x.feed(0, 0, 0, 0, 0), NONE);
        due("2: it keeps what it has", x.count(13), 500);
        due("2: all of it is a text", x.net(500), 0);
        due("2: it is empty then", x.feed(0x6120207E, 0x20202020, 0x2020202A, 0x20202020, 0x2020203B), 20);
        due("2: the highest byte comes first", x.net(20), 1);
        x.feed(0x61FF0000, 0, 0, 0, 0);
        due("2: bytes above 127", x.net(20), -2 - (8 * 1 + 1));
    }

    private static void net() {
        CombinatorRing x = of("memory 50; ([a b] *) ~ a;");
        due("3: nodes", x.count(1), 3);
        due("3: memory", x.count(0), 50);
        due("3: a pairer comes first", x.kind(0), 1);
        due("3: then a doubler", x.kind(1), 2);
        due("3: then an eraser", x.kind(2), 0);
        due("3: a ~ the pairer's head", x.link(0, 0), 3 * 1 + 1);
        x.run(0, 9, 0);
        x.image(0, false);
        feedText(x, "* ~ a;");
        due("3: more bytes than there are", x.net(21), NONE);
        due("3: below 0", x.net(-1), NONE);
        due("3: the least", x.net(LEAST), NONE);
        due("3: the greatest", x.net(GREATEST), NONE);
        due("3: the tape stays", x.count(13), 20);
        due("3: images stay", x.count(11), 1);
        due("3: a fault", x.net(5), -2 - (8 * 5 + 1));
        due("3: the tape is empty behind a fault", x.count(13), 0);
        due("3: all else stays behind a fault: memory", x.count(0), 50);
        due("3: all else stays behind a fault: nodes", x.count(1), 3);
        due("3: all else stays behind a fault: images", x.count(11), 1);
        due("3: all else stays behind a fault: undo", x.count(12), 1);
        feedText(x, "* ~ *; a ~ a; junk");
        due("3: only the first bytes", x.net(13), 2);
        due("3: memory without its word", x.count(0), 200);
        due("3: no images", x.count(11), 0);
        due("3: nothing to take back", x.count(12), 0);
        due("3: loops of the text", x.count(8), 1);
        due("3: made", x.count(2), 2);
        x.run(0, 9, 0);
        due("3: a text of nothing", x.net(0), 0);
        due("3: counts are 0", x.rule(0) + x.count(2) + x.count(3) + x.count(8), 0);
        fine("memory 8;", 0);
        fine(" \n a\n~\n\n* ; ", 1);
        fine("a~*;", 1);
        fine("(a(b c))~[#1<>];", 7);
    }

    private static void numbersAndListsInTexts() {
        CombinatorRing x = of("a ~ #2;");
        int[] kinds = {1, 0, 1, 0, 0};
        for (int node = 0; node < kinds.length; node++) {
            due("3: kinds of #2: " + node, x.kind(node), kinds[node]);
        }
        due("3: #2's end is its head", x.root(0), 0);
        due("3: #2: its first tree", x.link(0, 1), 3);
        due("3: #2: its second tree", x.link(0, 2), 6);
        due("3: #2: the inner ones", x.link(2, 1) + 100 * x.link(2, 2), 9 + 100 * 12);
        x = of("a ~ < 1 0 2 >;");
        int[] listKinds = {1, 1, 0, 0, 1, 0, 1, 1, 0, 1, 0, 0, 0};
        due("3: nodes of a list", x.count(1), listKinds.length);
        for (int node = 0; node < listKinds.length; node++) {
            due("3: kinds of <1 0 2>: " + node, x.kind(node), listKinds[node]);
        }
        due("3: the list's others", x.link(0, 2), 3 * 4);
        due("3: numbers with noughts ahead", of("a ~ #007;").number(0), 7);
        due("3: the greatest number", of("a ~ #20;").number(0), 20);
        due("3: a list without numbers", of("a ~ <>;").list(0, NONE), 0);
        fault("a~<9 9 9 9 9 9 9 9 9 9>;", 2, 5);
        fine("memory 201;a~<9 9 9 9 9 9 9 9 9 9>;", 201);
    }

    private static void namesInTexts() {
        CombinatorRing x = of("(b a) ~ [b c]; d ~ e; f ~ f; g ~ h; h ~ g;");
        due("3: roots as they stand: a", x.root(0), 3 * 0 + 2);
        due("3: roots as they stand: c", x.root(1), 3 * 1 + 2);
        due("3: two roots that are linked", x.root(2), 1003);
        due("3: two roots that are linked, back", x.root(3), 1002);
        due("3: a name that stands twice", x.link(0, 1), 3 * 1 + 1);
        due("3: loops", x.count(8), 2);
        x = of("a ~ b; b ~ c; c ~ (d e); d ~ e;");
        due("3: names passed on", x.root(0), 0);
        due("3: ports 1, 2 of one node", x.link(0, 1), 2);
        x = of("* ~ a; b ~ a; * ~ b;");
        due("3: names between heads", x.pair(0, 1), 1);
    }

    private static void faultsOfTokens() {
        fault("abcdef ~ a;", 0, 1);
        fault("memoryx ~ a;", 0, 1);
        fault("memor ~ memory;", 8, 1);
        fault("memory 0100;", 7, 1);
        fault("memory 10", 9, 1);
        fault("memory;", 6, 1);
        fault("memory a;", 7, 1);
        fault("a ~ *; memory 8;", 7, 1);
        fault("a ~ * ", 6, 1);
        fault("a", 1, 1);
        fault("a;", 1, 1);
        fault("a ~;", 3, 1);
        fault("a ~ 1;", 4, 1);
        fault(";", 0, 1);
        fault("~ a;", 0, 1);
        fault("(a b] ~ c;", 4, 1);
        fault("(a) ~ c;", 2, 1);
        fault("(a b c) ~ d;", 5, 1);
        fault("a ~ #;", 5, 1);
        fault("a ~ <1 b>;", 7, 1);
        fault("a ~ <1 2", 8, 1);
        fault("a ~ #1234;", 5, 1);
        fault("a ~ *;\t", 6, 1);
        fault("a ~ B;", 4, 1);
        fault("a ~ " + (char) 225 + ";", 4, 1);
        fault("a ~ " + (char) 0 + ";", 4, 1);
        fault("a ~ a; b ~ a; " + "?", 11, 2);
        fault("(a a) ~ a;", 8, 2);
        fine("abcde~ab;abcd~abc;", 0);
        fault("a1~*;", 1, 1);
        fine("memory8;a~#1;", 3);
        fine("\n  memory 8 ; a ~ #1 ;", 3);
        fault(" memora 8;", 1, 1);
        fault("a ~ %;", 4, 1);
        fault("{;", 0, 1);
    }

    private static void faultsOfNumbersAndDepth() {
        fault("memory 7; ?", 7, 3);
        fault("memory 301;", 7, 3);
        fault("memory 0;", 7, 3);
        fine("memory 300;", 0);
        fine("memory 008;", 0);
        fault("a ~ #21?", 5, 3);
        fault("a ~ # 999;", 6, 3);
        fault("a ~ <9 10>;", 7, 3);
        fault("a ~ <0 0 0 0 0 0 0 0 0 0 0>;", 25, 4);
        fault("a ~ <0 0 0 0 0 0 0 0 0 0 10>;", 25, 3);
        fault("a ~ <0 0 0 0 0 0 0 0 0 0 0000>;", 25, 1);
        fine("a ~ " + times(20, "(* ") + "*" + times(20, ")") + ";", 41);
        fault("a ~ " + times(20, "(* ") + "(* *)" + times(20, ")") + ";", 64, 4);
        fault("a ~ " + times(10, "[(* ") + "[* *]" + times(10, ") *]") + ";", 44, 4);
        fault("a ~ " + times(18, "(* ") + "((* *) ((* *) *))" + times(18, ")") + ";", 66, 4);
        fine("a ~ " + times(20, "[* ") + "#1" + times(20, "]") + ";", 43);
        fine(times(20, "(* ") + "<1>" + times(20, ")") + " ~ a;", 45);
        fault(times(21, "[") + "a", 20, 4);
    }

    private static void faultsOfMemory() {
        fine("memory 8; a ~ #3; b ~ *;", 8);
        fault("memory 8; a ~ #3; b ~ *; c ~ *;", 29, 5);
        fault("memory 8; a ~ #3; * ~ (a b);", 22, 5);
        fault("memory 8; a ~ #3; * ~ [a b];", 22, 5);
        fault("memory 8; a ~ # 4;", 14, 5);
        fault("memory 8; a ~ #21;", 15, 3);
        fine("memory 8; a ~ <1 0>;", 7);
        fault("memory 8; a ~ <1 1>;", 14, 5);
        fault("memory 8; a ~ <9 9 9 10>;", 21, 3);
        fault("memory 8; a ~ <9 9 9 b>;", 21, 1);
        fault("memory 22; a ~ " + times(20, "(* ") + "*" + times(20, ")") + ";", 48, 5);
        fine(times(100, "*~*;"), 200);
        fault(times(100, "*~*;") + "a~*;", 402, 5);
    }

    private static void faultsOfRoots() {
        fine("a~b;c~d;e~f;g~h;i~j;k~l;m~n;o~p;", 0);
        fault("a~b;c~d;e~f;g~h;i~j;k~l;m~n;o~p;q~*; ", 37, 6);
        fault("a~b;c~d;e~f;g~h;i~j;k~l;m~n;o~p;q~*", 35, 1);
        fine("a~b;c~d;e~f;g~h;i~j;k~l;m~n;o~p;q~q;", 0);
        fine("a~b;c~d;e~f;g~h;i~j;k~l;m~n;o~p;q~a;", 0);
    }

    private static void count() {
        CombinatorRing x = of("memory 20; [x y] ~ (* *); * ~ *;");
        dueCounts("4: ahead", x, 20, 6, 6, 0, 2, 2, 2, 2, 0, 0, 5, 0, 0, 0);
        x.reduce(4);
        dueCounts("4: two erasers gone", x, 20, 4, 6, 2, 1, 1, 2, 2, 0, 2, 5, 0, 1, 0);
        x.reduce(0);
        dueCounts("4: two nodes more", x, 20, 6, 10, 4, 2, 2, 2, 2, 0, 0, 5, 0, 2, 0);
        x.image(1, false);
        x.drop(0);
        x.feed(0, 0, 0, 0, 0);
        dueCounts("4: a root gone", x, 20, 7, 11, 4, 3, 3, 1, 2, 0, 0, 6, 1, 3, 20);
        x.image(0, false);
        due("4: two images", x.count(11), 2);
        due("4: below", x.count(-1), NONE);
        due("4: beyond", x.count(14), NONE);
        due("4: the least", x.count(LEAST), NONE);
        due("4: the greatest", x.count(GREATEST), NONE);
        due("4: no room for two more", of("memory 9; [x y] ~ #3;").count(5), 0);
        due("4: but a pair", of("memory 9; [x y] ~ #3;").count(4), 1);
        due("4: just room", of("memory 10; [x y] ~ #3;").count(5), 1);
        due("4: erasing needs no room", of("memory 8; * ~ #3;").count(5), 1);
    }

    private static void dueCounts(String what, CombinatorRing x, int... want) {
        for (int i = 0; i < want.length; i++) {
            due(what + ": count(" + i + ")", x.count(i), want[i]);
        }
    }

    private static void rule() {
        CombinatorRing x = of("*~*; (a b)~(c d); [e f]~[g h]; *~(i j); *~[k l]; (m n)~[o p];");
        for (int rule = 0; rule < 6; rule++) {
            due("5: ahead " + rule, x.rule(rule), 0);
            due("5: reduce", x.reduce(2 * rule), rule);
            due("5: behind " + rule, x.rule(rule), 1);
        }
        due("5: below", x.rule(-1), NONE);
        due("5: beyond", x.rule(6), NONE);
        due("5: the greatest", x.rule(GREATEST), NONE);
        due("5: the least", x.rule(LEAST), NONE);
    }

    private static void kind() {
        CombinatorRing x = of("memory 300; (a [b *]) ~ c; * ~ *;");
        due("6: a pairer", x.kind(0), 1);
        due("6: a doubler", x.kind(1), 2);
        due("6: an eraser", x.kind(2), 0);
        due("6: never given", x.kind(5), NONE);
        x.reduce(3);
        due("6: freed", x.kind(3), NONE);
        for (int node : new int[] {-1, 299, 300, 1000, LEAST, GREATEST}) {
            due("6: kind(" + node + ")", x.kind(node), NONE);
        }
    }

    private static void link() {
        CombinatorRing x = of("(a [b *]) ~ [b *]; * ~ *;");
        due("7: heads", x.link(0, 0), 3 * 3);
        due("7: a root", x.link(0, 1), 1000);
        due("7: a tree", x.link(0, 2), 3 * 1);
        due("7: back", x.link(1, 0), 3 * 0 + 2);
        due("7: a name", x.link(1, 1), 3 * 3 + 1);
        due("7: an eraser", x.link(2, 0), 3 * 1 + 2);
        due("7: an eraser's port 1", x.link(2, 1), NONE);
        due("7: an eraser's port 2", x.link(2, 2), NONE);
        x.reduce(5);
        due("7: freed", x.link(5, 0), NONE);
        for (int port : new int[] {-1, 3, 4, LEAST, GREATEST}) {
            due("7: port " + port, x.link(0, port), NONE);
        }
        for (int node : new int[] {-1, 7, 299, 300, 333, LEAST, GREATEST, 1431655766}) {
            due("7: node " + node, x.link(node, 0), NONE);
        }
    }

    private static void root() {
        CombinatorRing x = of("(a b) ~ c; d ~ e;");
        due("8: root 0", x.root(0), 1);
        due("8: root 1", x.root(1), 2);
        due("8: root 2", x.root(2), 0);
        due("8: root 3", x.root(3), 1004);
        x.drop(0);
        due("8: gone", x.root(0), NONE);
        for (int root : new int[] {-1, 5, 15, 16, 17, -1000, LEAST, GREATEST}) {
            due("8: root(" + root + ")", x.root(root), NONE);
        }
    }

    private static void rootAt() {
        CombinatorRing x = of("(a b) ~ c; d ~ e;");
        due("9: the first", x.rootAt(0), 0);
        due("9: the last", x.rootAt(4), 4);
        x.drop(0);
        x.join(2, 3);
        due("9: with others gone", x.rootAt(0), 1);
        due("9: the last", x.rootAt(1), 4);
        for (int i : new int[] {2, 16, -1, LEAST, GREATEST}) {
            due("9: rootAt(" + i + ")", x.rootAt(i), NONE);
        }
    }

    private static void pair() {
        CombinatorRing x = of("memory 10; a ~ *; b ~ [c d]; a ~ (e f); b ~ (g *); * ~ *;");
        int[][] want = {{0, 2, 3, 1}, {1, 3, 5, 1}, {5, 6, 0, 1}};
        for (int k = 0; k < want.length; k++) {
            for (int what = 0; what < 4; what++) {
                due("10: pair(" + k + ", " + what + ")", x.pair(k, what), want[k][what]);
            }
        }
        for (int wrongOne : new int[] {-1, 4, LEAST, GREATEST}) {
            due("10: what " + wrongOne, x.pair(0, wrongOne), NONE);
            due("10: k " + wrongOne, x.pair(wrongOne, 0), NONE);
        }
        due("10: not so many", x.pair(3, 0), NONE);
        due("10: can't be", of("memory 8; [x y] ~ #3;").pair(0, 3), 0);
    }

    private static void next() {
        CombinatorRing x = of("memory 12; * ~ *; (a b) ~ (c d); e ~ *;");
        due("11: never given", x.next(0), 5);
        x.reduce(2);
        due("11: freed last", x.next(0), 3);
        due("11: freed ahead of it", x.next(1), 2);
        x.reduce(0);
        int[] want = {1, 0, 3, 2, 5, 6, 7, 8, 9, 10, 11, NONE};
        for (int k = 0; k < want.length; k++) {
            due("11: next(" + k + ")", x.next(k), want[k]);
        }
        x.put(4, 1);
        due("11: given again", x.next(0), 2);
        due("11: then others", x.next(1), 5);
        for (int k : new int[] {-1, 200, LEAST, GREATEST}) {
            due("11: next(" + k + ")", x.next(k), NONE);
        }
        due("11: full", of("memory 8; a ~ #3; b ~ *;").next(0), NONE);
    }

    private static void number() {
        CombinatorRing x = of("a ~ *; b ~ #3; c ~ (* (* #20)); d ~ (#1 *); e ~ [* *]; (f *) ~ g; h ~ i;"
            + " j ~ (* [* *]); k ~ (* l);");
        int[] want = {0, 3, 22, -2, -2, -2, -2, -2, -2, -2, -2, -2};
        for (int root = 0; root < want.length; root++) {
            due("12: number(" + root + ")", x.number(root), want[root]);
        }
        x = of("a ~ b; (* b) ~ c;");
        due("12: by another port", x.number(0), -2);
        x.drop(0);
        due("12: gone", numberThrows(x, 0), true);
        for (int root : new int[] {-1, 2, 16, LEAST, GREATEST}) {
            due("12: number(" + root + ")", numberThrows(x, root), true);
        }
        due("12: a root that there is", numberThrows(x, 1), false);
    }

    private static void list() {
        CombinatorRing x = of("a ~ <3 0 9>; b ~ <>; c ~ (#20 (#1 <9>)); d ~ (#1 (#2 e)); f ~ ((#1 *) *);"
            + " g ~ (* [* *]); h ~ i; j ~ (k *);");
        due("13: how many", x.list(0, NONE), 3);
        due("13: the first", x.list(0, 0), 3);
        due("13: the second", x.list(0, 1), 0);
        due("13: the third", x.list(0, 2), 9);
        for (int i : new int[] {3, -2, LEAST, GREATEST}) {
            due("13: list(0, " + i + ")", x.list(0, i), -2);
        }
        due("13: none in it", x.list(1, NONE), 0);
        due("13: none in it", x.list(1, 0), -2);
        due("13: any size", x.list(2, 0), 20);
        due("13: any length", x.list(2, NONE), 3);
        for (int root = 3; root <= 10; root++) {
            due("13: no list at " + root, x.list(root, NONE), -2);
            due("13: no list at " + root, x.list(root, 0), -2);
        }
        StringBuilder longOne = new StringBuilder("a ~ b");
        for (int i = 0; i < 11; i++) {
            longOne.append("; ").append((char) ('b' + i)).append(" ~ (* (* (* (* ").append((char) ('c' + i)).append("))))");
        }
        due("13: longer than a text's list", of(longOne + "; m ~ *;").list(0, NONE), 44);
        x.drop(1);
        for (int root : new int[] {1, -1, 11, 16, LEAST, GREATEST}) {
            due("13: list(" + root + ", 0)", listThrows(x, root, 0), true);
            due("13: list(" + root + ", NONE)", listThrows(x, root, NONE), true);
        }
        due("13: a root that there is", listThrows(x, 0, 99), false);
    }

    private static void seen() {
        CombinatorRing x = of("r ~ (a (b a)); b ~ *; s ~ t; u ~ u; * ~ *;");
        due("14: those that are come to", x.seen(), 3);
        due("14: none", of("* ~ *;").seen(), 0);
        due("14: roots alone", of("a ~ b;").seen(), 0);
        x.put(1, 2);
        due("14: more", x.seen(), 8);
        due("14: all of them", of("memory 300; " + times(7, "*~#20;") + "a ~ #2;").seen(), 5);
    }

    private static void met() {
        CombinatorRing x = of("r ~ a; [a (* *)] ~ (s *);");
        int[] nodes = {0, 4, 5, 1, 2, 3};
        int[] ports = {1, 0, 0, 0, 0, 0};
        for (int i = 0; i < nodes.length; i++) {
            due("15: met(" + i + ", 0)", x.met(i, 0), nodes[i]);
            due("15: met(" + i + ", 1)", x.met(i, 1), ports[i]);
        }
        for (int wrongOne : new int[] {-1, 6, LEAST, GREATEST}) {
            due("15: i " + wrongOne, x.met(wrongOne, 0), NONE);
            due("15: what " + wrongOne, x.met(0, wrongOne), NONE);
        }
        due("15: what 2", x.met(0, 2), NONE);
        x = of("r ~ (a (b a)); b ~ *; s ~ t; u ~ u; * ~ *;");
        due("15: by port 2", x.met(1, 0), 1);
        due("15: by port 2", x.met(1, 1), 2);
        due("15: then its port 1", x.met(2, 0), 2);
        x = of("(z y) ~ *; r ~ (* #1); s ~ *;");
        due("15: roots by numbers", x.met(0, 0), 0);
        due("15: by port 1", x.met(0, 1), 1);
        due("15: a head from within", x.met(1, 0), 1);
        due("15: the next root", x.met(2, 0), 2);
        due("15: down to its end first", x.met(3, 0), 3);
    }

    private static void run() {
        CombinatorRing x = of("* ~ *; * ~ *; * ~ *;");
        due("16: the least X", x.run(0, 1, 0), 1);
        due("16: the others stay", x.pair(0, 0), 2);
        x.undo();
        due("16: the greatest X", x.run(1, 1, 0), 1);
        due("16: the others stay", x.pair(0, 0) + 10 * x.pair(1, 0), 20);
        due("16: till none can be", x.run(1, 9999, 0), 2);
        due("16: none is left", x.run(2, 9999, 0), 0);
        due("16: none asked for", x.run(0, 0, 0), 0);
        due("16: all were kept", x.count(12), 4);
        for (int order : new int[] {-1, 3, LEAST, GREATEST}) {
            due("16: order " + order, x.run(order, 1, 0), NONE);
        }
        for (int most : new int[] {-1, 10000, LEAST, GREATEST}) {
            due("16: most " + most, x.run(0, most, 0), NONE);
        }
        due("16: refused ones aren't kept", x.count(12), 4);
        x = of("memory 9; d ~ *; b ~ *; a ~ (b c); a ~ [c d];");
        due("16: without end", x.run(0, 9999, 0), 9999);
        due("16: it goes on", x.count(5) > 0, true);
        x = of("memory 20; [x y] ~ (* *); * ~ *;");
        x.reduce(4);
        x.reduce(0);
        due("16: D1, D2 got Y's and X's numbers", x.kind(1) + 10 * x.kind(0), 22);
        due("16: P1, P2 those freed ahead", x.kind(5) + 10 * x.kind(4), 11);
        due("16: P1's head", x.root(0), 3 * 5);
        due("16: P2's head", x.root(1), 3 * 4);
        due("16: D1's head", x.link(1, 0), 3 * 2);
        due("16: D2's head", x.link(0, 0), 3 * 3);
        due("16: port 1 of D2 is port 2 of P1", x.link(0, 1), 3 * 5 + 2);
        due("16: port 2 of D1 is port 1 of P2", x.link(1, 2), 3 * 4 + 1);
        due("16: two doublers are erased", x.run(0, 99, 0), 2);
        due("16: P1's port 1", x.link(5, 1), 3 * 2);
        due("16: P1's port 2", x.link(5, 2), 3 * 3);
        due("16: P2's port 1", x.link(4, 1), 3 * 1);
        due("16: P2's port 2", x.link(4, 2), 3 * 0);
        due("16: two numbers", x.number(0) + 10 * x.number(1), 11);
    }

    private static void drawnRun() {
        dueDrawn(0, 0, 2, 4, 8, 6);
        dueDrawn(7, 4, 6, 8, 0, 2);
        dueDrawn(-1, 4, 2, 6, 0, 8);
    }

    private static void dueDrawn(int seed, int... want) {
        for (int steps = 1; steps <= want.length; steps++) {
            CombinatorRing x = of(times(5, "* ~ *;"));
            x.run(2, steps, seed);
            for (int i = 0; i < want.length; i++) {
                due("16: drawn with " + seed + ": " + want[i], x.kind(want[i]), i < steps ? NONE : 0);
            }
        }
    }

    private static void rulesWithinThemselves() {
        dueLoops("(a a) ~ (b b);", 1);
        dueLoops("(a b) ~ (a b);", 2);
        dueLoops("(a b) ~ (b a);", 1);
        dueLoops("[a b] ~ [a b];", 2);
        dueLoops("(a b) ~ (a c);", 1);
        dueLoops("[a b] ~ [c b];", 1);
        dueJoined("(a a) ~ (b c);");
        dueJoined("(b c) ~ (a a);");
        dueJoined("(a b) ~ (a c);");
        dueJoined("(a b) ~ (c a);");
        dueJoined("[b a] ~ [a c];");
        dueJoined("[a b] ~ [a c];");
        for (String text : new String[] {"* ~ (a a);", "[a a] ~ *;"}) {
            CombinatorRing x = of(text);
            due("18: " + text, x.reduce(0) >= 3, true);
            due("18: two erasers meet", x.pair(0, 2), 0);
            due("18: numbers 1, 0", x.pair(0, 1), 1);
        }
        CombinatorRing x = of("(a a) ~ [b c];");
        x.reduce(0);
        due("18: D1 meets D2", x.pair(0, 2), 2);
        due("18: D1 meets D2", x.link(0, 0), 3);
        due("18: P1, P2 at the roots", x.root(0) + 100 * x.root(1), 6 + 900);
        due("18: D1 to P1, P2", x.link(1, 1) + 100 * x.link(1, 2), 7 + 1000);
        due("18: D2 to P1, P2", x.link(0, 1) + 100 * x.link(0, 2), 8 + 1100);
        x = of("(a b) ~ [a b];");
        x.reduce(0);
        due("18: D2 meets P2", x.pair(0, 1), 3);
        due("18: D1 meets P1", x.pair(1, 1), 2);
        x = of("[a b] ~ (a b);");
        x.reduce(0);
        due("18: numbers don't ask who is X: D1", x.kind(1), 2);
        due("18: numbers don't ask who is X: D2", x.kind(0), 2);
        due("18: D1 meets P1", x.link(1, 0), 3 * 2);
    }

    private static void dueLoops(String text, int loops) {
        CombinatorRing x = of(text);
        x.reduce(0);
        due("18: nodes behind " + text, x.count(1), 0);
        due("18: loops behind " + text, x.count(8), loops);
    }

    private static void dueJoined(String text) {
        CombinatorRing x = of(text);
        x.reduce(0);
        due("18: roots behind " + text, x.root(0), 1001);
        due("18: roots behind " + text, x.root(1), 1000);
    }

    private static void round() {
        CombinatorRing x = of("memory 8; [a b] ~ (c d); [e f] ~ (g h); i ~ (j k); l ~ *;");
        due("17: no room for the second one", x.round(), 1);
        due("17: it stays", x.pair(0, 0), 2);
        due("17: and still", x.round(), 0);
        due("17: both are kept", x.count(12), 2);
        x = of("memory 8; * ~ *; [a b] ~ (c d); e ~ (f g); h ~ #1;");
        due("17: one can't be ahead", x.count(5), 1);
        due("17: but when it comes to it", x.round(), 2);
        due("17: P1, P2", x.root(0) + 100 * x.root(1), 3);
        due("17: D1, D2", x.root(2) + 100 * x.root(3), 9 + 600);
        x = of("(* *) ~ (* *);");
        due("17: only those that there are ahead", x.round(), 1);
        due("17: those that came", x.round(), 2);
        due("17: none", x.round(), 0);
    }

    private static void reduce() {
        CombinatorRing x = of("memory 8; * ~ *; [a b] ~ (c d); e ~ (f g); h ~ #1;");
        for (int wrongOne : new int[] {1, 3, 4, 2, 7, 8, 300, -1, LEAST, GREATEST}) {
            due("18: reduce(" + wrongOne + ")", x.reduce(wrongOne), NONE);
        }
        due("18: refused ones aren't kept", x.count(12), 0);
        due("18: two erasers", x.reduce(0), 0);
        due("18: once", x.reduce(0), NONE);
        due("18: there is room now", x.reduce(2), 5);
        due("18: kept", x.count(12), 2);
    }

    private static void tried() {
        CombinatorRing x = of("[* *] ~ (* *);");
        for (int order = 0; order < 3; order++) {
            due("19: how many", x.tried(order, 9999, 3, 0), 9);
            due("19: the most nodes", x.tried(order, 9999, 3, 1), 8);
            due("19: none is left", x.tried(order, 9999, 3, 2), 0);
        }
        due("19: one step", x.tried(0, 1, 0, 0), 1);
        due("19: pairs behind it", x.tried(0, 1, 0, 2), 4);
        due("19: no step", x.tried(0, 0, 0, 0), 0);
        due("19: nodes ahead", x.tried(0, 0, 0, 1), 6);
        due("19: nodes ahead of fewer", of("* ~ *; * ~ *;").tried(0, 9, 0, 1), 4);
        due("19: pairs ahead", x.tried(0, 0, 0, 2), 1);
        due("19: pairs that can't be are left, too", of("memory 8; [x y] ~ #3;").tried(1, 9, 0, 2), 1);
        due("19: in thought", x.count(1) + x.count(12) + x.rule(5), 6);
        for (int wrongOne : new int[] {-1, 3, LEAST, GREATEST}) {
            due("19: order " + wrongOne, x.tried(wrongOne, 1, 0, 0), NONE);
            due("19: what " + wrongOne, x.tried(0, 1, 0, wrongOne), NONE);
        }
        for (int most : new int[] {-1, 10000, LEAST, GREATEST}) {
            due("19: most " + most, x.tried(0, most, 0, 0), NONE);
        }
        x = of("* ~ *; [a b] ~ (c d);");
        due("19: seed 0 draws the erasers", x.tried(2, 1, 0, 1), 4);
        due("19: seed 3 draws the others", x.tried(2, 1, 3, 1), 6);
    }

    private static void rounds() {
        CombinatorRing x = of("[* *] ~ (* *);");
        due("20: three", x.rounds(), 3);
        due("20: in thought", x.count(1) + x.count(12), 6);
        x.round();
        due("20: two", x.rounds(), 2);
        due("20: none", of("a ~ #3;").rounds(), 0);
        due("20: none that can be", of("memory 8; [x y] ~ #3;").rounds(), 0);
        due("20: without end", of("memory 9; d ~ *; b ~ *; a ~ (b c); a ~ [c d];").rounds(), -2);
        due("20: 500", of("memory 300;c~(f e);h~(g b);b~[a a];g~*;c~[f d];h~[e d];").rounds(), 500);
        x = of("memory 206;b~[a c];f~(h d);g~[e c];g~(a e);d~*;f~[b h];");
        due("20: 501", x.rounds(), -2);
        x.round();
        due("20: one less", x.rounds(), 500);
    }

    private static void alike() {
        CombinatorRing x = of("[x y] ~ <2 0 1>; * ~ (* *);");
        for (int order = 0; order < 3; order++) {
            for (int other = 0; other < 3; other++) {
                due("21: orders " + order + ", " + other, x.alike(order, other, 9999, 11), 1);
            }
        }
        due("21: steps that don't do", x.alike(0, 0, 3, 0), -2);
        due("21: in thought", x.count(12) + x.rule(5), 0);
        CombinatorRing full = of("memory 8; [a b] ~ (c d); [e f] ~ (g h); i ~ (j k); l ~ *;");
        due("21: room for one of them", full.alike(0, 1, 9999, 0), 0);
        due("21: the same one", full.alike(1, 1, 9999, 0), 1);
        due("21: no steps", of("a ~ #3;").alike(0, 1, 0, 0), 1);
        due("21: without end", of("memory 9; d ~ *; b ~ *; a ~ (b c); a ~ [c d];").alike(0, 1, 9999, 0), -2);
        for (int wrongOne : new int[] {-1, 3, LEAST, GREATEST}) {
            due("21: order " + wrongOne, x.alike(wrongOne, 0, 1, 0), NONE);
            due("21: other " + wrongOne, x.alike(0, wrongOne, 1, 0), NONE);
        }
        for (int most : new int[] {-1, 10000, LEAST, GREATEST}) {
            due("21: most " + most, x.alike(0, 1, most, 0), NONE);
        }
    }

    private static void likeImage() {
        CombinatorRing x = of("a ~ (b c); * ~ *; d ~ #2; (e e) ~ (f g);");
        due("22: nothing in it", x.likeImage(0), NONE);
        x.image(0, false);
        due("22: itself", x.likeImage(0), 1);
        due("22: the other one", x.likeImage(1), NONE);
        x.reduce(1);
        due("22: what isn't come to is of no matter", x.likeImage(0), 1);
        x.run(0, 9, 0);
        due("22: f, g are roots that are linked now", x.likeImage(0), 0);
        x.undo();
        due("22: again", x.likeImage(0), 1);
        x.split(3);
        due("22: other roots", x.likeImage(0), 0);
        x.undo();
        x.join(0, 3);
        due("22: roots less", x.likeImage(0), 0);
        for (int k : new int[] {-1, 2, LEAST, GREATEST}) {
            due("22: likeImage(" + k + ")", x.likeImage(k), NONE);
        }
        x = of("a ~ b; (* *) ~ c;");
        x.twice(0);
        x.image(0, false);
        x.undo();
        x.split(0);
        due("22: another kind", x.likeImage(0), 0);
        x.undo();
        x.twice(0);
        due("22: alike again", x.likeImage(0), 1);
    }

    private static void put() {
        CombinatorRing x = of("memory 8; a ~ (b c);");
        due("23: no room", x.put(1, 4), NONE);
        due("23: below 0", x.put(1, -1), NONE);
        due("23: the least", x.put(1, LEAST), NONE);
        due("23: beyond 20", of("a ~ *;").put(0, 21), NONE);
        due("23: the greatest", of("a ~ *;").put(0, GREATEST), NONE);
        for (int root : new int[] {-1, 3, 16, LEAST, GREATEST}) {
            due("23: put(" + root + ", 0)", x.put(root, 0), NONE);
        }
        due("23: nothing happened", x.count(12) + x.count(6) + x.count(1), 4);
        due("23: nodes", x.put(1, 3), 8);
        due("23: the root is gone", x.root(1), NONE);
        due("23: its head", x.link(0, 1), 3);
        due("23: the first eraser", x.link(1, 1), 6);
        due("23: the next pairer", x.link(1, 2), 9);
        due("23: full", x.put(2, 0), NONE);
        due("23: once", x.put(1, 0), NONE);
        due("23: roots ever stay", x.count(7), 3);
        x = of("a ~ b;");
        due("23: to a root", x.put(0, 20), 41);
        due("23: read there", x.number(1), 20);
        x = of("a ~ [b c];");
        x.put(0, 0);
        due("23: a pair", x.pair(0, 2), 4);
    }

    private static void split() {
        CombinatorRing x = of("a ~ #2;");
        due("24: the first one's number", x.split(0), 1);
        due("24: the roots", x.root(1) + 100 * x.root(2), 3 * 5 + 1 + 100 * (3 * 5 + 2));
        due("24: a pairer", x.kind(5), 1);
        due("24: its head", x.link(5, 0), 0);
        due("24: the root is gone", x.split(0), NONE);
        x.run(0, 9, 0);
        due("24: split", x.number(1) + 10 * x.number(2), 10);
        due("24: 14 roots", of("a~b;c~d;e~f;g~h;i~j;k~l;m~n;").split(13), 14);
        x = of("a~b;c~d;e~f;g~h;i~j;k~l;m~n;");
        due("24: to a root", x.split(0), 14);
        due("24: to a root", x.root(1), 0);
        due("24: beyond 16 in all", x.split(1), NONE);
        due("24: 15 roots", of("a~b;c~d;e~f;g~h;i~j;k~l;m~n;o~*;").split(0), NONE);
        due("24: no room", of("memory 8; a ~ #3; b ~ *;").split(0), NONE);
        due("24: room for one", of("memory 8; a ~ #3;").split(0), 1);
        for (int root : new int[] {-1, 1, 16, LEAST, GREATEST}) {
            CombinatorRing y = of("a ~ *;");
            due("24: split(" + root + ")", y.split(root), NONE);
            due("24: nothing happened", y.count(12), 0);
        }
    }

    private static void twice() {
        CombinatorRing x = of("a ~ #2;");
        due("25: the first one's number", x.twice(0), 1);
        due("25: a doubler", x.kind(5), 2);
        due("25: the roots", x.root(1) + 100 * x.root(2), 3 * 5 + 1 + 100 * (3 * 5 + 2));
        x.run(0, 99, 0);
        due("25: doubled", x.number(1) + 10 * x.number(2), 22);
        due("25: gone", x.twice(0), NONE);
        due("25: 15 roots", of("a~b;c~d;e~f;g~h;i~j;k~l;m~n;o~*;").twice(0), NONE);
        due("25: 14 roots", of("a~b;c~d;e~f;g~h;i~j;k~l;m~n;").twice(0), 14);
        due("25: no room", of("memory 8; a ~ #3; b ~ *;").twice(0), NONE);
        due("25: room for one", of("memory 8; a ~ #3;").twice(0), 1);
        for (int root : new int[] {-1, 1, 16, LEAST, GREATEST}) {
            due("25: twice(" + root + ")", of("a ~ *;").twice(root), NONE);
        }
    }

    private static void drop() {
        CombinatorRing x = of("memory 8; a ~ #3;");
        due("26: nodes", x.drop(0), 8);
        due("26: a pair", x.pair(0, 1), 7);
        due("26: gone", x.drop(0), NONE);
        x.run(1, 99, 0);
        due("26: all is gone", x.count(1), 0);
        due("26: no room", of("memory 8; a ~ #3; b ~ *;").drop(1), NONE);
        for (int root : new int[] {-1, 1, 16, LEAST, GREATEST}) {
            CombinatorRing y = of("a ~ *;");
            due("26: drop(" + root + ")", y.drop(root), NONE);
            due("26: nothing happened", y.count(12), 0);
        }
    }

    private static void join() {
        CombinatorRing x = of("a ~ #1; b ~ [c d]; e ~ f; g ~ h;");
        due("27: roots", x.join(0, 1), 6);
        due("27: both are gone", x.root(0) + x.root(1), 2 * NONE);
        due("27: a pair", x.pair(0, 2), 5);
        due("27: over a root", x.join(2, 4), 4);
        due("27: over a root", x.root(5), 3 * 3 + 1);
        due("27: to each other", x.join(7, 6), 2);
        due("27: a loop", x.count(8), 1);
        due("27: the same one", x.join(3, 3), NONE);
        due("27: gone ones", x.join(3, 0), NONE);
        for (int root : new int[] {-1, 8, 16, LEAST, GREATEST}) {
            due("27: join(3, " + root + ")", x.join(3, root), NONE);
            due("27: join(" + root + ", 3)", x.join(root, 3), NONE);
        }
        due("27: kept", x.count(12), 3);
        due("27: the last ones", x.join(3, 5), 0);
        due("27: ports of one node", x.link(3, 2), 3 * 3 + 1);
    }

    private static void undo() {
        CombinatorRing x = of("a~b;c~d;e~f;g~h;i~j;k~l;m~n;o~p;");
        for (int root = 0; root < 14; root++) {
            x.drop(root);
        }
        due("28: the latest 12", x.count(12), 12);
        x.image(1, false);
        x.feed(0, 0, 0, 0, 0);
        for (int left = 11; left >= 0; left--) {
            due("28: how many still", x.undo(), left);
            due("28: nodes", x.count(1), left + 2);
        }
        due("28: none", x.undo(), NONE);
        due("28: nodes stay", x.count(1), 2);
        due("28: images stay", x.count(11), 1);
        due("28: the tape stays", x.count(13), 20);
        x = of("memory 30; [x y] ~ #1; * ~ *; a ~ b;");
        x.round();
        x.run(0, 0, 0);
        x.reduce(x.pair(0, 0));
        x.put(2, 1);
        x.split(3);
        x.twice(0);
        x.drop(1);
        x.join(4, 5);
        x.put(9, 9);
        x.join(6, 6);
        x.reduce(-1);
        due("28: refused ones aren't kept", x.count(12), 8);
        for (int left = 7; left >= 0; left--) {
            due("28: how many still", x.undo(), left);
        }
        dueCounts("28: as all was", x, 30, 6, 6, 0, 2, 2, 4, 4, 0, 0, 5, 0, 0, 0);
        due("28: rules", x.rule(5) + x.rule(0) + x.rule(4), 0);
        due("28: links", x.link(0, 0), 3);
        due("28: what is given next", x.next(0), 6);
        due("28: pairs", x.pair(1, 0), 4);
        x.run(0, 99, 0);
        due("28: and on", x.undo(), 0);
    }

    private static void image() {
        CombinatorRing x = of("memory 30; [x y] ~ #1; * ~ *; a ~ b;");
        due("29: nothing in it", x.image(0, true), false);
        due("29: laid", x.image(0, false), true);
        x.run(0, 99, 0);
        due("29: laid behind", x.image(1, false), true);
        due("29: laying keeps what can be taken back", x.count(12), 1);
        x.join(2, 3);
        x.feed(0, 0, 0, 0, 0);
        due("29: back", x.image(0, true), true);
        dueCounts("29: all is as in it", x, 30, 6, 6, 0, 2, 2, 4, 4, 0, 0, 5, 2, 0, 20);
        due("29: rules", x.rule(5), 0);
        due("29: nothing can be taken back", x.undo(), NONE);
        x.drop(2);
        due("29: the other one", x.image(1, true), true);
        due("29: its rules", x.rule(5), 1);
        due("29: its numbers", x.number(0) + 10 * x.number(1), 11);
        due("29: its loops", x.count(8), 0);
        due("29: its roots", x.root(2), 1003);
        x.drop(2);
        due("29: over it", x.image(0, false), true);
        x.undo();
        due("29: back again", x.image(0, true), true);
        due("29: the root is gone there", x.root(2), NONE);
        for (int k : new int[] {-1, 2, LEAST, GREATEST}) {
            due("29: image(" + k + ", false)", x.image(k, false), false);
            due("29: image(" + k + ", true)", x.image(k, true), false);
        }
        due("29: none such holds nothing", x.count(11), 2);
        x.net(0);
        due("29: a new net", x.image(0, true), false);
        due("29: memory", x.count(0), 200);
        x = of("memory 9; a ~ *;");
        x.image(0, false);
        x.image(1, false);
        x.image(1, true);
        due("29: memory", x.count(0), 9);
    }
}
