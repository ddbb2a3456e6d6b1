/** The edges that the document names of texts, tokens and faults ('Terms', up to '==== 2.'), a test each. */
public final class TextBoundaryTest {
    private static final int NONE = Boundary.NONE;

    public static void main(String[] args) throws Exception {
        Boundary.runAll(Tests.class, args, "Terms");
    }

    /** Each method here is one test; they run by their names. */
    private static final class Tests {
        private static final String FULL_300 = "memory 300;" + "*~#20;".repeat(7) + "*~#2;";
        private static final String FULL_200 = "*~#20;".repeat(4) + "*~#15;";
        private static final String ROOTS_16 = "a~b;c~d;e~f;g~h;i~j;k~l;m~n;o~p;";

        static void theConstant() {
            at("`NONE = -1`: None; refused.");
            due("NONE", CombinatorRing.NONE, -1);
        }

        // ---- what a net has

        static void anEraserHasOnePort() {
            at("of KIND 0, an ERASER, with one PORT, 0");
            CombinatorRing x = Boundary.of("a~*;");
            due("kind", x.kind(0), 0);
            due("port 0", x.link(0, 0), 1000);
            due("port 1", x.link(0, 1), NONE);
            due("port 2", x.link(0, 2), NONE);
        }

        static void othersHaveThreePorts() {
            at("of KIND 1, a PAIRER, and KIND 2, a DOUBLER, with PORTS 0, 1, 2.");
            CombinatorRing x = Boundary.of("a~(b c);d~[e f];");
            for (int node = 0; node < 2; node++) {
                due("kind", x.kind(node), node + 1);
                due("below", x.link(node, -1), NONE);
                due("port 0", x.link(node, 0), 1000 + 3 * node);
                due("port 1", x.link(node, 1), 1001 + 3 * node);
                due("port 2", x.link(node, 2), 1002 + 3 * node);
                due("beyond", x.link(node, 3), NONE);
            }
        }

        static void linkedBothWaysAlsoToItsOwnNode() {
            at("Each PORT is LINKED to just one other one, both ways.");
            Boundary.linkedBothWays(Boundary.of("(a a)~[b c];d~(e f);d~e;g~h;i~f;j~j;"));
            CombinatorRing x = Boundary.of("a~(a b);");
            due("a head at its own port 1", x.link(0, 0), 1);
            due("that port at the head", x.link(0, 1), 0);
            due("no pair", x.count(4), 0);
            x = Boundary.of("a~[b a];");
            due("a head at its own port 2", x.link(0, 0), 2);
            due("that port at the head", x.link(0, 2), 0);
        }

        // ---- memory, roots

        static void memoryIsFullWithItsLastNumber() {
            at("MEMORY has room for so many NODES, numbered from 0 on.");
            CombinatorRing x = Boundary.of(FULL_300);
            due("nodes", x.count(1), 300);
            due("the first one", x.kind(0), 0);
            due("the last one", x.kind(299), 0);
            due("beyond", x.kind(300), NONE);
            due("the greatest number", x.count(10), 299);
            due("no more", x.next(0), NONE);
        }

        static void theNumberFreedLastIsGivenFirst() {
            at("A NODE that is MADE gets the number that was FREED last of those not given again;");
            CombinatorRing x = Boundary.of("*~*;*~*;a~b;c~d;");
            x.reduce(2);
            x.reduce(0);
            x.put(0, 1);
            due("freed last", x.root(1), 3);
            due("freed ahead of it", x.link(1, 1), 0);
            due("freed ahead of that", x.link(1, 2), 9);
        }

        static void withoutFreedOnesTheLeastNeverGiven() {
            at("without such the least that was never given.");
            CombinatorRing x = Boundary.of("*~*;a~b;");
            x.reduce(0);
            x.put(0, 1);
            due("freed last", x.root(1), 3);
            due("freed first", x.link(1, 1), 0);
            due("never given", x.link(1, 2), 6);
            due("the next one", x.next(0), 3);
        }

        static void sixteenRootsInAll() {
            at("ROOTS are numbered as they come, from 0 on, 16 at most in all;");
            CombinatorRing x = Boundary.of(ROOTS_16);
            due("roots", x.count(6), 16);
            due("the last one", x.root(15), 1014);
            due("beyond", x.root(16), NONE);
            for (int root = 0; root < 16; root += 2) {
                x.join(root, root + 1);
            }
            due("none is left", x.count(6), 0);
            due("in all", x.count(7), 16);
        }

        static void aRootsNumberIsNotGivenAgain() {
            at("a number isn't given again.");
            CombinatorRing x = Boundary.of("a~b;c~*;");
            x.drop(2);
            due("behind the greatest", x.split(0), 3);
            due("the other new one", x.rootAt(2), 4);
            x.drop(3);
            x.drop(4);
            due("nor those that came by hand", x.twice(1), 5);
            due("roots ever", x.count(7), 7);
        }

        // ---- tokens

        static void aTextOfAllTheTape() {
            at("THE TAPE has 500 bytes;");
            String text = " ".repeat(496) + "a~*;";
            Boundary.fine(text, 1);
            Boundary.faultAtEnd(text.substring(0, 499), 1);
        }

        static void blanksPartTokens() {
            at("blanks, 32, 10, part TOKENS and mean nothing else;");
            Boundary.fine(" \n \n", 0);
            Boundary.fine("\n memory \n 8 \n ; \n a \n ~ \n # \n 2 \n ; \n ", 5);
            Boundary.fine("a~<1 2>;", 11);
            Boundary.fault("a~<12>;", 3, 3);
            Boundary.fine("a~<1\n2>;", 11);
            Boundary.fault("a b~*;", 2, 1);
            Boundary.fault("me mory 8;", 3, 1);
            Boundary.fault("a~#1 2;", 5, 1);
            for (int sign : new int[] {0, 9, 11, 12, 13, 31, 33, 160}) {
                Boundary.fault("a" + (char) sign + "~*;", 1, 1);
            }
        }

        static void wordsOfOneToFiveLetters() {
            at("WORDS of 1 to 5 small letters and the word memory,");
            Boundary.fine("a~z;", 0);
            Boundary.fine("abcde~vwxyz;", 0);
            Boundary.fault("abcdef~*;", 0, 1);
            Boundary.fault("a~abcdefg;", 2, 1);
            for (int sign : new int[] {'a' - 1, 'z' + 1, 'A', 'Z', 'a' + 128, 'z' + 128}) {
                Boundary.fault("a" + (char) sign + "~*;", 1, 1);
            }
        }

        static void namesOfOtherLengthsAreUnlike() {
            at("WORDS of 1 to 5 small letters");
            due("a, aa, .. aaaaa", Boundary.of("a~aa;aaa~aaaa;aaaaa~*;").count(6), 5);
            due("ab, ba, b", Boundary.of("ab~ba;b~*;").count(6), 3);
            due("zzzzz twice", Boundary.of("zzzzz~zzzzz;").count(6), 0);
        }

        static void memoryIsNoOtherWord() {
            at("WORDS of 1 to 5 small letters and the word memory,");
            Boundary.fine("memor~memo;emory~*;", 1);
            Boundary.fault("memoryy 8;", 0, 1);
            Boundary.fault("nemory 8;", 0, 1);
            Boundary.fault("memorz 8;", 0, 1);
            Boundary.fault("Memory 8;", 0, 1);
            Boundary.fine("memory8;", 0);
        }

        static void numbersOfOneToThreeDigits() {
            at("NUMBERS of 1 to 3 digits, each that stand together;");
            due("one", Boundary.of("a~#9;").number(0), 9);
            due("two", Boundary.of("a~#09;").number(0), 9);
            due("three", Boundary.of("a~#009;").number(0), 9);
            Boundary.fault("a~#0009;", 3, 1);
            Boundary.fault("memory 0008;", 7, 1);
            Boundary.fault("a~<1 0001>;", 5, 1);
            Boundary.fault("a~#" + "1".repeat(40) + ";", 3, 1);
            Boundary.fault("a~#1/;", 4, 1);
            Boundary.fault("a~#1:;", 4, 1);
        }

        static void eachByteAsTheFirstOne() {
            at("single ones of ; ~ * # ( ) [ ] < >");
            for (int sign = 0; sign < 256; sign++) {
                String text = (char) sign + "~*;";
                if (sign >= 'a' && sign <= 'z') {
                    Boundary.fine(text, 1);
                } else if (sign == '*') {
                    Boundary.fine(text, 2);
                } else if (sign == ' ' || sign == '\n' || "#([<".indexOf(sign) >= 0) {
                    Boundary.fault(text, 1, 1);
                } else {
                    Boundary.fault(text, 0, 1);
                }
            }
        }

        // ---- the text

        static void memoryOf8To300() {
            at("(8 to 300; 200 without)");
            Boundary.fault("memory 7;", 7, 3);
            due("8", Boundary.of("memory 8;").count(0), 8);
            due("300", Boundary.of("memory 300;").count(0), 300);
            Boundary.fault("memory 301;", 7, 3);
            Boundary.fault("memory 0;", 7, 3);
            Boundary.fault("memory 999;", 7, 3);
        }

        static void memoryWithoutItsWord() {
            at("(8 to 300; 200 without)");
            due("a text of nothing", Boundary.of("").count(0), 200);
            CombinatorRing x = Boundary.of("memory 9;");
            Boundary.read(x, "a~*;");
            due("behind another memory", x.count(0), 200);
            Boundary.fine(FULL_200, 200);
            Boundary.fault(FULL_200 + "a~*;", FULL_200.length() + 2, 5);
        }

        static void memoryIsTheFirstToken() {
            at("[ memory NUMBER ; ] { TREE ~ TREE ; }");
            Boundary.fault("memory 8;memory 8;", 9, 1);
            Boundary.fault("a~*;memory 8;", 4, 1);
            Boundary.fault("a~memory;", 2, 1);
            Boundary.fault("(memory a)~b;", 1, 1);
            Boundary.fine("  memory 8;", 0);
        }

        static void noLinkOrMany() {
            at("[ memory NUMBER ; ] { TREE ~ TREE ; }");
            Boundary.fine("", 0);
            Boundary.fine("memory 8;", 0);
            Boundary.fine("*~*;", 2);
            Boundary.fine("*~*;".repeat(100), 200);
            Boundary.fault("a~b;;", 4, 1);
        }

        static void noTextBreaksOff() {
            at("[ memory NUMBER ; ] { TREE ~ TREE ; }");
            for (String text : new String[] {"memory", "memory 8", "a", "a~", "a~b", "(", "(a", "(a b", "(a b)",
                    "[", "[a", "[a b", "a~#", "a~#1", "a~<", "a~<1", "a~<1>", "a~*;b"}) {
                Boundary.faultAtEnd(text, 1);
                Boundary.faultAtEnd(text + " \n ", 1);
            }
        }

        static void numbersOf0To20() {
            at("# NUMBER (0 to 20)");
            Boundary.fine("a~#0;", 1);
            Boundary.fine("a~#20;", 41);
            Boundary.fault("a~#21;", 3, 3);
            Boundary.fault("a~#999;", 3, 3);
        }

        static void listsOf0To9Each() {
            at("< { NUMBER } > (0 to 9 each, 10 at most)");
            due("0", Boundary.of("a~<0>;").list(0, 0), 0);
            due("9", Boundary.of("a~<9>;").list(0, 0), 9);
            Boundary.fault("a~<10>;", 3, 3);
            Boundary.fault("a~<0 1 10>;", 7, 3);
        }

        static void listsOfTenAtMost() {
            at("< { NUMBER } > (0 to 9 each, 10 at most)");
            due("none", Boundary.of("a~<>;").list(0, NONE), 0);
            due("ten", Boundary.of("a~<0 1 2 3 4 5 6 7 8 9>;").list(0, NONE), 10);
            due("the tenth", Boundary.of("a~<0 1 2 3 4 5 6 7 8 9>;").list(0, 9), 9);
            Boundary.fault("a~<0 1 2 3 4 5 6 7 8 9 0>;", 23, 4);
        }

        static void theEndOfANameIsItsOtherPlace() {
            at("of a NAME: the other place where it stands;");
            CombinatorRing x = Boundary.of("a~b;b~c;c~d;d~(e f);");
            due("through names", x.root(0), 0);
            x = Boundary.of("d~(e f);c~d;b~c;a~b;");
            due("from behind", x.root(2), 0);
            due("a root is numbered by its own place", x.root(0), 1);
            due("heads through names", Boundary.of("*~a;b~a;c~b;*~c;").count(4), 1);
            due("ports of one node", Boundary.of("r~(a a);").link(0, 1), 2);
        }

        static void aNameThatStandsOnceIsARoot() {
            at("it may stand twice; once: that is a ROOT (numbered as they stand).");
            CombinatorRing x = Boundary.of("(b a)~[c b];d~c;");
            due("roots", x.count(6), 2);
            due("a", x.root(0), 2);
            due("d", x.root(1), 4);
            due("all stand twice", Boundary.of("(a b)~[a b];").count(6), 0);
        }

        static void linksOfNamesAloneAreLoops() {
            at("What is only NAMES, LINKED round to themselves, is a LOOP.");
            due("one name", Boundary.of("a~a;").count(8), 1);
            due("two", Boundary.of("a~b;b~a;").count(8), 1);
            due("two, turned", Boundary.of("a~b;a~b;").count(8), 1);
            due("three", Boundary.of("a~b;c~a;b~c;").count(8), 1);
            due("two loops", Boundary.of("a~a;b~b;").count(8), 2);
            due("a node between", Boundary.of("a~(a b);b~c;").count(8), 0);
            due("roots at the ends", Boundary.of("a~b;b~c;").count(8), 0);
        }

        static void nodesAreMadeAsTheyCome() {
            at("NODES are MADE as their first TOKENS come.");
            CombinatorRing x = Boundary.of("(a [* b])~[#1 (* c)];");
            int[] kinds = {1, 2, 0, 2, 1, 0, 0, 1, 0};
            due("nodes", x.count(1), kinds.length);
            for (int node = 0; node < kinds.length; node++) {
                due("kind of " + node, x.kind(node), kinds[node]);
            }
        }

        static void theNumber0IsAnEraser() {
            at("NUMBER n as a TREE: 0: *; n: ( * TREE of n less 1 ).");
            CombinatorRing x = Boundary.of("a~#0;b~#1;");
            due("0", x.kind(0), 0);
            due("1", x.kind(1), 1);
            due("1: its first tree", x.link(1, 1), 6);
            due("1: its second tree", x.link(1, 2), 9);
            due("both are erasers", x.kind(2) + x.kind(3), 0);
        }

        static void theListWithoutNumbersIsAnEraser() {
            at("A list as a TREE: without numbers: *;");
            CombinatorRing x = Boundary.of("a~<>;");
            due("nodes", x.count(1), 1);
            due("an eraser", x.kind(0), 0);
            due("read as a number", x.number(0), 0);
        }

        static void aListOfOneNumber() {
            at("else ( TREE of the first NUMBER, TREE of the list of the others ).");
            CombinatorRing x = Boundary.of("a~<0>;");
            due("nodes", x.count(1), 3);
            due("a pairer", x.kind(0), 1);
            due("the number", x.link(0, 1), 3);
            due("the others", x.link(0, 2), 6);
        }

        static void theFirstTreeIsMadeFirst() {
            at("Their NODES are MADE a NODE ahead of what is in it, its first TREE ahead of the second one.");
            CombinatorRing x = Boundary.of("a~<1 0>;");
            int[] kinds = {1, 1, 0, 0, 1, 0, 0};
            for (int node = 0; node < kinds.length; node++) {
                due("kind of " + node, x.kind(node), kinds[node]);
            }
            due("the others behind the first number", x.link(0, 2), 12);
            due("the first number's own", x.link(1, 1) + 100 * x.link(1, 2), 906);
        }

        // ---- faults

        static void theFirstFaultFromTheLeft() {
            at("FAULTS, the first that is met from the left,");
            Boundary.fault("a~#21;?", 3, 3);
            Boundary.fault("?a~#21;", 0, 1);
            Boundary.fault("a~a;b~a;#", 6, 2);
            Boundary.fault("a~a;#99~a;", 5, 3);
            Boundary.fault("memory 7;abcdef", 7, 3);
            Boundary.fault("memory 8;a~#4;?", 11, 5);
            Boundary.fault("memory 8;a~#4?", 11, 5);
            Boundary.fault("memory 8;a~<9>?", 11, 5);
            Boundary.fault(ROOTS_16 + "q~?", ROOTS_16.length() + 2, 1);
        }

        static void ofOneTokenTheFirstFault() {
            at("of one TOKEN the one that stands first here, at the TOKEN's first byte:");
            Boundary.fault("a~a a;", 4, 1);
            Boundary.fault("a~999;", 2, 1);
            Boundary.fault("a~<0 0 0 0 0 0 0 0 0 0 10>;", 23, 3);
            Boundary.fault("a~<0 0 0 0 0 0 0 0 0 0 0000>;", 23, 1);
            Boundary.fault("memory 20;" + "(".repeat(21), 30, 4);
            Boundary.fault("memory 20;" + "[".repeat(21), 30, 4);
            Boundary.fault("(".repeat(20) + "a b(", 23, 1);
            Boundary.fault("memory 8;a~#3;b~* *", 18, 1);
            Boundary.fault("memory 8;a~#3;b~* #", 18, 1);
            Boundary.fault("memory 8;a~#3;b~* <", 18, 1);
        }

        static void theFirstByteThatBeginsNoToken() {
            at("1 the first byte that begins no TOKEN (also at letters, digits too many that stand together)");
            Boundary.fault("?", 0, 1);
            Boundary.fault("  ?", 2, 1);
            Boundary.fault("a~*;  \n?", 7, 1);
            Boundary.fault("a~*;" + (char) 0, 4, 1);
            Boundary.fault("a~*;" + (char) 255, 4, 1);
            Boundary.fault("a~*;abcdef", 4, 1);
            Boundary.fault("a~ abcdefghij;", 3, 1);
            Boundary.fault("a~# 1234;", 4, 1);
            Boundary.fault("1234", 0, 1);
        }

        /** Each state of a text, as a text ahead, with the tokens that go on there. */
        static void theTokenWithWhichNoTextGoesOn() {
            at("the TOKEN with which no TEXT goes on (the end: how many bytes there are);");
            String tree = "name * # ( [ <";
            goesOn("", "memory end " + tree);
            goesOn("memory ", "number");
            goesOn("memory 8", ";");
            goesOn("memory 8;", "end " + tree);
            goesOn("a", "~");
            goesOn("a~", tree);
            goesOn("a~b", ";");
            goesOn("a~b;", "end " + tree);
            goesOn("(", tree);
            goesOn("(a", tree);
            goesOn("(a b", ")");
            goesOn("(a b)", "~");
            goesOn("[", tree);
            goesOn("[a", tree);
            goesOn("[a b", "]");
            goesOn("[a b]", "~");
            goesOn("a~(b c)", ";");
            goesOn("a~#", "number");
            goesOn("a~#1", ";");
            goesOn("a~<", "number >");
            goesOn("a~<1 ", "number >");
            goesOn("a~<1>", ";");
            goesOn("*", "~");
            goesOn("a~*", ";");
        }

        private static void goesOn(String ahead, String tokens) {
            for (String token : "memory name number end ; ~ * # ( ) [ ] < >".split(" ")) {
                String text = ahead + (" " + token).replace("name", "x").replace("number", "9").replace("end", "");
                boolean can = (" " + tokens + " ").contains(" " + token + " ");
                int wrongHere = -2 - (8 * (ahead.length() + 1) + 1);
                int got = Boundary.read(new CombinatorRing(), text);
                if (can) {
                    due("the text " + text + " isn't refused at " + token, got == wrongHere, false);
                    due("the text " + text + " ends or breaks off", got >= 0 || got == -2 - (8 * text.length() + 1), true);
                } else {
                    due("the text " + text, got, wrongHere);
                }
            }
        }

        static void theEndIsHowManyBytesThereAre() {
            at("the TOKEN with which no TEXT goes on (the end: how many bytes there are);");
            Boundary.fault("a", 1, 1);
            Boundary.fault("a   ", 4, 1);
            Boundary.fault("a~b", 3, 1);
            Boundary.fault("a" + " ".repeat(499), 500, 1);
            CombinatorRing x = new CombinatorRing();
            Boundary.feedText(x, "a~*;");
            due("of more bytes on the tape", x.net(3), -2 - (8 * 3 + 1));
        }

        static void aNameThatStandsAThirdTime() {
            at("2 a NAME that stands a third time;");
            Boundary.fault("a~a;a~*;", 4, 2);
            Boundary.fault("(a a)~a;", 6, 2);
            Boundary.fault("a~b;(b a)~ a;", 11, 2);
            Boundary.fault("abcde~abcde;*~abcde;", 14, 2);
            Boundary.fine("a~a;b~b;", 0);
        }

        static void aNumberThatCantBe() {
            at("3 a NUMBER that can't be;");
            Boundary.fault("memory 007;", 7, 3);
            Boundary.fault("memory\n301", 7, 3);
            Boundary.fault("a~#  021;", 5, 3);
            Boundary.fault("a~<9 9 010>;", 7, 3);
            Boundary.fault("memory 8;a~#21;", 12, 3);
            Boundary.fault("memory 8;a~<9 10>;", 14, 3);
        }

        static void aNumberBehindTen() {
            at("4 one too many: a NUMBER in < > behind ten;");
            Boundary.fault("a~<0 0 0 0 0 0 0 0 0 0 9>;", 23, 4);
            Boundary.fault("memory 8;a~<0 0 0 0 0 0 0 0 0 0 0>;", 32, 4);
            Boundary.fine("memory 21;a~<0 0 0 0 0 0 0 0 0 0>;", 21);
            Boundary.fine("a~(<0 0 0 0 0 0 0 0 0 0><0 0 0 0 0 0 0 0 0 0>);", 43);
        }

        static void aBracketWithinTwenty() {
            at("a ( or [ within 20 of them;");
            String deep = "(* ".repeat(19);
            String close = ")".repeat(19);
            Boundary.fine("a~" + deep + "(b c)" + close + ";", 39);
            Boundary.fine("a~" + deep + "[b c]" + close + ";", 39);
            Boundary.fault("a~" + deep + "((b c) d)" + close + ";", 60, 4);
            Boundary.fault("a~" + deep + "([b c] d)" + close + ";", 60, 4);
            Boundary.fault("a~" + deep + "[(b c) d]" + close + ";", 60, 4);
            Boundary.fault("a~" + deep + "(b (c d))" + close + ";", 62, 4);
            Boundary.fine("a~" + deep + "(#1 <1>)" + close + ";", 47);
            Boundary.fault("[".repeat(21), 20, 4);
        }

        static void bracketsThatAreClosedDontCount() {
            at("a ( or [ within 20 of them;");
            String deep = "(* ".repeat(18);
            String close = ")".repeat(18);
            Boundary.fine(deep + "((a b)(c d))" + close + "~" + deep + "([e f] g)" + close + ";", 77);
            Boundary.fine("(a b)~(c d);" + "*~(* *);".repeat(25), 102);
        }

        static void theTokenByWhichMemoryIsFull() {
            at("5 the TOKEN (of ( [ * # <) by which MEMORY is full");
            String seven = "memory 8;a~#3;";
            Boundary.fine(seven + "b~*;", 8);
            Boundary.fine(seven + "b~(c d);", 8);
            Boundary.fine(seven + "b~[c d];", 8);
            Boundary.fine(seven + "b~#0;", 8);
            Boundary.fine(seven + "b~<>;", 8);
            String eight = seven + "b~*;";
            for (String tree : new String[] {"*", "(d e)", "[d e]", "#0", "<>"}) {
                Boundary.fault(eight + "c~ " + tree + ";", eight.length() + 3, 5);
            }
            Boundary.fault("memory 8;((a b)(c d))~((e f)(g(h(i *))));", 35, 5);
            Boundary.fine(eight + "c~c;d~e;", 8);
        }

        static void aNumberFindsRoomAsAWhole() {
            at("(at # and <: if not all of it finds room;");
            Boundary.fine("memory 9;a~#4;", 9);
            Boundary.fault("memory 8;a~#4;", 11, 5);
            Boundary.fault("memory 8;b~*;a~#20;", 15, 5);
            Boundary.fine("memory 41;a~#20;", 41);
            Boundary.fault("memory 40;a~#20;", 12, 5);
        }

        static void aListFindsRoomAsAWhole() {
            at("(at # and <: if not all of it finds room;");
            Boundary.fine("memory 9;a~<1 1>;", 9);
            Boundary.fault("memory 8;a~<1 1>;", 11, 5);
            Boundary.fine("memory 201;a~<9 9 9 9 9 9 9 9 9 9>;", 201);
            Boundary.fault("a~<9 9 9 9 9 9 9 9 9 9>;", 2, 5);
        }

        static void askedBehindTheNumber() {
            at("asked behind the NUMBER of a #,");
            Boundary.fault("memory 8;a~# 4;", 11, 5);
            Boundary.fault("memory 8;a~# 21;", 13, 3);
            Boundary.fault("memory 8;a~# b;", 13, 1);
            Boundary.fault("memory 8;a~# ?;", 13, 1);
            Boundary.fault("memory 8;a~# 0004;", 13, 1);
            Boundary.fault("memory 8;a~# 4", 11, 5);
            Boundary.fault("memory 8;a~#", 12, 1);
        }

        static void askedAtTheEndOfTheList() {
            at("at the > of a <, told at the #, the <);");
            Boundary.fault("memory 8;a~ <9 9>;", 12, 5);
            Boundary.fault("memory 8;a~<9 9 10>;", 16, 3);
            Boundary.fault("memory 8;a~<9 9 b>;", 16, 1);
            Boundary.fault("memory 8;a~<9 9 ?>;", 16, 1);
            Boundary.fault("memory 8;a~<9 9 ", 16, 1);
            Boundary.fault("memory 8;a~<9 9;", 15, 1);
            Boundary.fault("memory 8;a~<9 9>", 11, 5);
            Boundary.fault("memory 8;a~#3;b~*;c~<", 21, 1);
        }

        static void moreThan16Roots() {
            at("6 at the end, and told with it: more than 16 ROOTS.");
            Boundary.fine(ROOTS_16, 0);
            Boundary.faultAtEnd(ROOTS_16 + "q~*;", 6);
            Boundary.faultAtEnd(ROOTS_16 + "q~*; \n ", 6);
            Boundary.faultAtEnd(ROOTS_16 + "q~r;s~t;", 6);
            Boundary.fine(ROOTS_16 + "q~q;", 0);
            Boundary.fine(ROOTS_16 + "q~a;", 0);
            Boundary.fine(ROOTS_16 + "q~*;a~*;", 2);
        }

        static void theEndsOtherFaultComesFirst() {
            at("6 at the end, and told with it: more than 16 ROOTS.");
            Boundary.faultAtEnd(ROOTS_16 + "q~*", 1);
            Boundary.fault(ROOTS_16 + "q~*;a~a;", ROOTS_16.length() + 6, 2);
            Boundary.fault("memory 8;" + ROOTS_16 + "q~#4;", 9 + ROOTS_16.length() + 2, 5);
        }

        // ---- short names for what each test uses

        private static void at(String sentence) {
            Boundary.at("Terms", sentence);
        }

        private static void due(String what, long got, long want) {
            Boundary.due(what, got, want);
        }

        private static void due(String what, boolean got, boolean want) {
            Boundary.due(what, got, want);
        }
    }
}
