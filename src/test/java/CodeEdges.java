/** Terms: CODE, its operations and LINKED, a test for each sentence. */
final class CodeEdges {
    private static final int BAD = ProtoMachine.BAD;
    private static final int LEAST = -1073741824;
    private static final int MOST = 1073741823;
    private static final String OBJECT = "NIL; NEW;";
    private static final String METHOD = OBJECT + "DUP; METHOD 1; SET 1;";

    private CodeEdges() {
    }

    static void all() {
        rowOfWords();
        labelsStandFor();
        onThePile();
        reckoning();
        rounding();
        comparing();
        going();
        localsAndGlobals();
        making();
        getAndSet();
        dropAndHas();
        parents();
        protos();
        methodsAndSends();
        returns();
        wordsThatDoNothing();
        calls();
        firstFrame();
        framesOfThePile();
        firstAndLeastFault();
        noSuchOperation();
        operandsOutOfRange();
        labelsTwice();
        labelsMissing();
    }

    /** More calls than the document speaks of, for 2000 words can't be laid with fewer. */
    private static void rowOfWords() {
        Check.of("Terms", "CODE is a row of WORDS, 2000 at most: an operation and operands a and b (0 where none is told).");
        ProtoMachine m = new ProtoMachine(20, 60);
        for (int i = 1; i <= 1997; i++) {
            m.asm(i % 2 == 1 ? 2 : 3, 0, 0);
        }
        Check.same("1998", 1998, m.asm(33, 7, 0));
        Check.same("1999", 1999, m.asm(2, 0, 0));
        Check.same("2000", 2000, m.asm(1, 77, 0));
        Check.same("2001", ProtoMachine.FULL, m.asm(3, 0, 0));
        Check.same("link", 0, m.link());
        Check.same("all but the last", 0, m.run(1999));
        Check.same("stands at the last", 1999, m.many(10));
        Check.same("the last", 0, m.step());
        Check.same("its operand", 77, m.pile(0, 1));
        Check.same("behind the last", 1, m.step());
        Check.same("stands there", 2000, m.many(10));
        for (String bare : "HALT NIL POP DUP SWAP ADD NEW CLONE PARENT ADOPT SELF RETURN PRINT".split(" ")) {
            fault(bare, 0, 0);
            fault(bare + " 1", 0, 2);
            fault(bare + " 0 1", 0, 2);
        }
    }

    private static void labelsStandFor() {
        Check.of("Terms", "LABELS 0 .. 199 stand for the place of the word behind LABEL (which is a word, too).");
        for (int label : new int[] {-1, 0, 1, 198, 199, 200}) {
            ProtoMachine m = new ProtoMachine(20, 60);
            Check.lay(m, "NIL; LABEL " + label + "; METHOD " + label + "; JUMP " + label);
            boolean is = label >= 0 && label <= 199;
            Check.same("link with " + label, is ? 0 : -11, m.link());
            Check.same("run with " + label, is ? 0 : BAD, m.run(4));
            Check.same("place of " + label, is ? 2 : BAD, m.pile(0, 1));
            Check.same("stands behind " + label, is ? 2 : 0, m.many(10));
        }
        ProtoMachine last = Check.linked(20, 60, "JUMP 5; NIL; LABEL 5");
        last.step();
        Check.same("a label that is the last word", 3, last.many(10));
        Check.same("behind it", 1, last.step());
        ProtoMachine word = Check.linked(20, 60, "LABEL 5; NIL");
        Check.same("a label is a word", 2, word.many(13));
        word.step();
        Check.same("and a step", 1, word.many(9));
    }

    private static void onThePile() {
        Check.of("Terms", "0 HALT.");
        Check.ends("PUSH 1; HALT; PUSH 2", 1, 1, 1);
        Check.ends("HALT", 1, 0, 0);
        Check.of("Terms", "1 PUSH a: the int a.");
        for (int n : new int[] {LEAST, -1, 0, 1, MOST}) {
            Check.prints("PUSH " + n + "; PRINT", 1, n);
        }
        Check.of("Terms", "2 NIL.");
        Check.prints("NIL; PRINT", 0, 0);
        Check.of("Terms", "3 POP.");
        Check.ends("POP", 5, 0, 0);
        Check.ends("PUSH 7; POP", 1, 2, 0);
        Check.same("the lower one stays", 7, Check.ran("PUSH 7; PUSH 8; POP").pile(0, 1));
        Check.of("Terms", "4 DUP: the uppermost value once more.");
        Check.ends("DUP", 5, 0, 0);
        ProtoMachine dup = Check.ran("PUSH 7; PUSH 8; DUP");
        Check.same("values", 3, dup.many(11));
        Check.same("the uppermost", 8, dup.pile(0, 1));
        Check.same("below it", 8, dup.pile(1, 1));
        Check.same("the lowest", 7, dup.pile(2, 1));
        Check.of("Terms", "5 SWAP: the two uppermost.");
        Check.ends("SWAP", 5, 0, 0);
        Check.ends("PUSH 7; SWAP", 5, 1, 1);
        ProtoMachine swap = Check.ran("PUSH 6; PUSH 7; PUSH 8; SWAP");
        Check.same("the uppermost of SWAP", 7, swap.pile(0, 1));
        Check.same("below it", 8, swap.pile(1, 1));
        Check.same("the third stays", 6, swap.pile(2, 1));
        Check.same("values stay", 3, swap.many(11));
    }

    private static void reckons(int first, String op, int second, int due) {
        Check.prints("PUSH " + first + "; PUSH " + second + "; " + op + "; PRINT", 1, due);
    }

    private static void reckoning() {
        Check.of("Terms", "6 ADD, 7 SUB, 8 MUL, 9 DIV, 10 REM: of two ints (the upper one is the second);");
        reckons(17, "ADD", 5, 22);
        reckons(17, "SUB", 5, 12);
        reckons(5, "SUB", 17, -12);
        reckons(17, "MUL", -5, -85);
        reckons(17, "DIV", 5, 3);
        reckons(5, "DIV", 17, 0);
        reckons(17, "REM", 5, 2);
        reckons(5, "REM", 17, 5);
        for (String op : "ADD SUB MUL DIV REM".split(" ")) {
            Check.ends(op, 5, 0, 0);
            Check.ends("PUSH 1; " + op, 5, 1, 1);
            for (String other : new String[] {"NIL", "METHOD 1", "GLOBAL 0"}) {
                String code = "LABEL 1; " + OBJECT + "KEEP 0; ";
                Check.ends(code + other + "; PUSH 1; " + op, 3, 6, 2);
                Check.ends(code + "PUSH 1; " + other + "; " + op, 3, 6, 2);
            }
        }
    }

    private static void rounding() {
        Check.of("Terms", "DIV rounds to 0, REM has the sign of the first.");
        int[][] cases = {{7, 2, 3, 1}, {-7, 2, -3, -1}, {7, -2, -3, 1}, {-7, -2, 3, -1}, {6, 2, 3, 0}, {-6, 2, -3, 0},
            {1, 2, 0, 1}, {-1, 2, 0, -1}, {1, -2, 0, 1}, {0, -2, 0, 0}, {LEAST, MOST, -1, -1}, {MOST, LEAST, 0, MOST},
            {LEAST, 1, LEAST, 0}, {MOST, -1, -MOST, 0}};
        for (int[] each : cases) {
            reckons(each[0], "DIV", each[1], each[2]);
            reckons(each[0], "REM", each[1], each[3]);
        }
        reckons(LEAST, "REM", -1, 0);
    }

    private static void comparing() {
        Check.of("Terms", "11 LESS: of two ints, 1 or 0.");
        int[][] cases = {{4, 5, 1}, {5, 5, 0}, {6, 5, 0}, {-1, 0, 1}, {0, -1, 0}, {LEAST, MOST, 1}, {MOST, LEAST, 0},
            {LEAST, LEAST, 0}};
        for (int[] each : cases) {
            reckons(each[0], "LESS", each[1], each[2]);
        }
        Check.ends("LESS", 5, 0, 0);
        Check.ends("PUSH 1; LESS", 5, 1, 1);
        Check.ends("PUSH 1; NIL; LESS", 3, 2, 2);
        Check.ends("NIL; PUSH 1; LESS", 3, 2, 2);
        Check.of("Terms", "12 EQUAL: the SAME, 1 or 0.");
        reckons(4, "EQUAL", 5, 0);
        reckons(5, "EQUAL", 5, 1);
        reckons(6, "EQUAL", 5, 0);
        Check.prints("NIL; PUSH 0; EQUAL; PRINT", 1, 0);
        Check.ends("EQUAL", 5, 0, 0);
        Check.ends("NIL; EQUAL", 5, 1, 1);
    }

    private static void going() {
        Check.of("Terms", "13 JUMP a: to a label.");
        Check.prints("JUMP 2; PUSH 1; LABEL 1; PUSH 2; LABEL 2; PUSH 3; PRINT; HALT", 1, 3);
        ProtoMachine back = Check.linked(20, 60, "LABEL 1; NIL; JUMP 1");
        back.run(3);
        Check.same("back", 1, back.many(10));
        Check.of("Terms", "14 UNLESS a: a value goes; to a label if it is FALSE.");
        Check.ends("LABEL 1; UNLESS 1", 5, 1, 0);
        String[] values = {"NIL", "PUSH 0", "PUSH 1", "PUSH -1"};
        for (int i = 0; i < values.length; i++) {
            ProtoMachine m = Check.linked(20, 60, "PUSH 9; " + values[i] + "; UNLESS 1; NIL; LABEL 1");
            m.run(3);
            Check.same("stands after " + values[i], i < 2 ? 5 : 3, m.many(10));
            Check.same("values after " + values[i], 1, m.many(11));
        }
    }

    private static void localsAndGlobals() {
        Check.of("Terms", "15 LOCAL a: its value comes. 16 STORE a: a value goes there.");
        for (int k : new int[] {0, 1, 14, 15}) {
            Check.prints("PUSH 5; STORE " + k + "; LOCAL " + k + "; PRINT", 1, 5);
            ProtoMachine m = Check.ran("PUSH 5; STORE " + k);
            Check.same("the value went to " + k, 0, m.many(11));
            for (int other = 0; other < 16; other++) {
                Check.same("local " + other + " with " + k, other == k ? 1 : 0, m.local(other, 0));
            }
        }
        Check.prints("PUSH 5; STORE 3; PUSH 6; STORE 3; LOCAL 3; PRINT", 1, 6);
        Check.ends("STORE 0", 5, 0, 0);
        Check.of("Terms", "17 GLOBAL a, 18 KEEP a: likewise of 16 values that all share.");
        for (int k : new int[] {0, 1, 14, 15}) {
            Check.prints("PUSH 5; KEEP " + k + "; GLOBAL " + k + "; PRINT", 1, 5);
            Check.prints("PUSH 5; KEEP " + k + "; GLOBAL " + (k ^ 1) + "; PRINT", 0, 0);
            Check.prints("PUSH 4; KEEP " + k + ";" + METHOD + "SEND 1 0; GLOBAL " + k + "; PRINT; HALT;"
                + "LABEL 1; ENTER 0 0; GLOBAL " + k + "; PUSH 1; ADD; KEEP " + k + "; NIL; RETURN", 1, 5);
        }
        Check.prints("PUSH 5; STORE 3; GLOBAL 3; PRINT", 0, 0);
        Check.ends("KEEP 0", 5, 0, 0);
    }

    private static void making() {
        Check.of("Terms", "19 NEW: a parent (an object or NIL) goes, a new object of it without slots comes.");
        ProtoMachine m = Check.ran(Check.grown(2) + "GLOBAL 0; NEW; NIL; NEW");
        Check.same("values", 2, m.many(11));
        Check.same("the parent of one", 1, m.object(2, 3));
        Check.same("no slots", 0, m.object(2, 2));
        Check.same("NIL of the other", 0, m.object(3, 3));
        Check.ends("NEW", 5, 0, 0);
        Check.ends("PUSH 0; NEW", 3, 1, 1);
        Check.ends("LABEL 1; METHOD 1; NEW", 3, 2, 1);
        Check.of("Terms", "20 CLONE: an object goes, a new one with the same parent and slots comes.");
        for (int slots : new int[] {0, 1, 39, 40}) {
            ProtoMachine copy = Check.ran(Check.grown(slots) + "GLOBAL 0; NIL; NEW; ADOPT; GLOBAL 0; CLONE");
            Check.same("a copy with " + slots, 3, copy.pile(0, 1));
            Check.same("values with " + slots, 1, copy.many(11));
            Check.same("parent with " + slots, 2, copy.object(3, 3));
            Check.same("slots with " + slots, slots, copy.object(3, 2));
            for (int k = 0; k < slots; k += 13) {
                Check.same("name " + k, k, copy.slot(3, k, 0));
                Check.same("value " + k, k, copy.slot(3, k, 2));
            }
            Check.same("no more than " + slots, BAD, copy.slot(3, slots, 0));
        }
        Check.prints(Check.grown(1) + "GLOBAL 0; CLONE; PUSH 9; SET 0; GLOBAL 0; GET 0; PRINT", 1, 0);
        Check.prints(Check.grown(1) + "GLOBAL 0; CLONE; DUP; GLOBAL 0; PUSH 9; SET 0; GET 0; PRINT", 1, 0);
        Check.ends("CLONE", 5, 0, 0);
        Check.ends("NIL; CLONE", 3, 1, 1);
        Check.ends("PUSH 1; CLONE", 3, 1, 1);
    }

    private static void getAndSet() {
        Check.of("Terms", "21 GET a: a value goes, the value of the slot a FOUND in its chain comes.");
        Check.prints(Check.grown(2) + "GLOBAL 0; GET 1; PRINT", 1, 1);
        Check.prints(Check.grown(2) + "GLOBAL 0; NEW; GET 1; PRINT", 1, 1);
        Check.prints(METHOD + "GET 1; PRINT; LABEL 1", 3, 8);
        Check.same("values", 3, Check.ran(Check.grown(1) + "PUSH 8; PUSH 9; GLOBAL 0; GET 0").many(11));
        Check.ends(Check.grown(2) + "GLOBAL 0; GET 2", 2, 10, 1);
        Check.ends("GET 0", 5, 0, 0);
        Check.of("Terms", "22 SET a: a value and, below it, an object go; its own slot a has that value then"
            + " (the slot comes, if it has none).");
        ProtoMachine m = Check.ran(Check.grown(1) + "GLOBAL 0; NEW; DUP; PUSH 9; SET 0");
        Check.same("values", 2, Check.ran("PUSH 8; PUSH 9; NIL; NEW; NIL; SET 0").many(11));
        Check.same("its own", 9, m.slot(2, 0, 2));
        Check.same("not its parent's", 0, m.slot(1, 0, 2));
        Check.same("values", 1, m.many(11));
        ProtoMachine again = Check.ran(Check.grown(2) + "GLOBAL 0; PUSH 9; SET 0");
        Check.same("no slot comes", 2, again.object(1, 2));
        Check.same("the value anew", 9, again.slot(1, 0, 2));
        Check.same("the other stays", 1, again.slot(1, 1, 2));
        Check.ends("SET 0", 5, 0, 0);
        Check.ends(OBJECT + "SET 0", 5, 2, 1);
        Check.ends("NIL;" + OBJECT + "SET 0", 3, 3, 2);
        Check.ends("PUSH 1;" + OBJECT + "SET 0", 3, 3, 2);
    }

    private static void dropAndHas() {
        Check.of("Terms", "23 DROP a: an object goes, its own slot a goes from it.");
        for (int name = 0; name < 3; name++) {
            ProtoMachine m = Check.ran(Check.grown(3) + "GLOBAL 0; DROP " + name);
            Check.same("slots without " + name, 2, m.object(1, 2));
            Check.same("values without " + name, 0, m.many(11));
            Check.same("the first without " + name, name == 0 ? 1 : 0, m.slot(1, 0, 0));
            Check.same("the last without " + name, name == 2 ? 1 : 2, m.slot(1, 1, 0));
            Check.same("its value", name == 2 ? 1 : 2, m.slot(1, 1, 2));
        }
        Check.ends(Check.grown(3) + "GLOBAL 0; DROP 3", 2, 13, 1);
        Check.ends(Check.grown(1) + "GLOBAL 0; NEW; DROP 0", 2, 8, 1);
        Check.same("of one slot", 0, Check.ran(Check.grown(1) + "GLOBAL 0; DROP 0").object(1, 2));
        ProtoMachine full = Check.ran(Check.grown(40) + "GLOBAL 0; DROP 39; GLOBAL 0; DROP 0");
        Check.same("of 40", 38, full.object(1, 2));
        Check.same("the last", 38, full.slot(1, 37, 0));
        Check.ends("DROP 0", 5, 0, 0);
        Check.ends("NIL; DROP 0", 3, 1, 1);
        Check.of("Terms", "24 HAS a: a value goes; 1, if a is FOUND in its chain, else 0.");
        for (int name = 0; name < 4; name++) {
            Check.prints(Check.grown(3) + "GLOBAL 0; HAS " + name + "; PRINT", 1, name < 3 ? 1 : 0);
            Check.prints(Check.grown(3) + "GLOBAL 0; NEW; HAS " + name + "; PRINT", 1, name < 3 ? 1 : 0);
        }
        Check.prints("NIL; HAS 0; PRINT", 1, 0);
        Check.prints(OBJECT + "DUP; NIL; SET 4; HAS 4; PRINT", 1, 1);
        Check.same("values", 3, Check.ran("PUSH 8; PUSH 9; NIL; HAS 0").many(11));
        Check.ends("HAS 0", 5, 0, 0);
    }

    private static void parents() {
        Check.of("Terms", "25 PARENT: an object goes, its parent comes.");
        Check.prints(OBJECT + "PARENT; PRINT", 0, 0);
        Check.prints(OBJECT + "NEW; PARENT; PRINT", 2, 1);
        Check.prints(OBJECT + "NEW; NEW; PARENT; PRINT", 2, 2);
        Check.same("values", 3, Check.ran("PUSH 8; PUSH 9; NIL; NEW; PARENT").many(11));
        Check.ends("PARENT", 5, 0, 0);
        Check.ends("NIL; PARENT", 3, 1, 1);
        Check.ends("PUSH 1; PARENT", 3, 1, 1);
        Check.of("Terms", "26 ADOPT: a parent (an object or NIL) and, below it, an object go; that is its parent then.");
        String two = OBJECT + "KEEP 0;" + OBJECT + "KEEP 1; GLOBAL 0; GLOBAL 1; ADOPT;";
        ProtoMachine m = Check.ran(two);
        Check.same("the parent", 2, m.object(1, 3));
        Check.same("of the other", 0, m.object(2, 3));
        Check.same("values", 2, Check.ran("PUSH 8; PUSH 9; NIL; NEW; NIL; ADOPT").many(11));
        Check.same("NIL", 0, Check.ran(two + "GLOBAL 0; NIL; ADOPT").object(1, 3));
        Check.ends("ADOPT", 5, 0, 0);
        Check.ends("NIL; ADOPT", 5, 1, 1);
        Check.ends("NIL; NIL; ADOPT", 3, 2, 2);
        Check.ends(OBJECT + "PUSH 0; ADOPT", 3, 3, 2);
    }

    private static void protos() {
        Check.of("Terms", "27 PROTO a (0, 1, 3): an object or NIL goes, and is PROTO of that kind.");
        String[] values = {"NIL", "PUSH 4", "", "METHOD 1"};
        for (int kind = -1; kind <= 4; kind++) {
            fault("PROTO " + kind, 0, kind == 0 || kind == 1 || kind == 3 ? 0 : 2);
        }
        for (int kind : new int[] {0, 1, 3}) {
            String code = "LABEL 1; " + Check.grown(1) + "GLOBAL 0; PROTO " + kind;
            Check.prints(code + "; " + values[kind] + "; GET 0; PRINT", 1, 0);
            Check.same("values", 0, Check.ran(code).many(11));
            Check.ends(code + "; NIL; PROTO " + kind + "; " + values[kind] + "; GET 0", 2, 12, 1);
            Check.ends("PROTO " + kind, 5, 0, 0);
            Check.ends("PUSH 0; PROTO " + kind, 3, 1, 1);
            Check.ends("LABEL 1; METHOD 1; PROTO " + kind, 3, 2, 1);
        }
    }

    private static void methodsAndSends() {
        Check.of("Terms", "28 METHOD a: the method that is the place of a label.");
        Check.prints("METHOD 7; PRINT; HALT; LABEL 7; NIL", 3, 4);
        Check.prints("LABEL 7; METHOD 7; PRINT", 3, 1);
        Check.prints("METHOD 7; PRINT; LABEL 7", 3, 3);
        Check.of("Terms", "29 SEND a b: b values (0 .. 8) and, below them, the RECEIVER go;"
            + " the slot a is FOUND in its chain: of a method, it is CALLED;");
        for (int b = 0; b <= 8; b++) {
            StringBuilder code = new StringBuilder("PUSH 50;" + METHOD);
            for (int i = 0; i < b; i++) {
                code.append("PUSH ").append(10 + i).append(";");
            }
            ProtoMachine m = Check.ran(code + "SEND 1 " + b + "; HALT; LABEL 1; ENTER " + b + " 1; HALT");
            Check.same("frames with " + b, 2, m.many(12));
            Check.same("values with " + b, 1, m.many(11));
            Check.same("self with " + b, 1, m.local(16, 1));
            for (int i = 0; i < b; i++) {
                Check.same("value " + i + " of " + b, 10 + i, m.local(i, 1));
            }
            Check.ends(Check.repeat("NIL", b) + "SEND 1 " + b, 5, b, b);
        }
        fault("SEND 1 -1", 0, 2);
        fault("SEND 1 9", 0, 2);
        Check.ends(OBJECT + "SEND 1 0", 2, 2, 1);
        Check.of("Terms", "any other value comes, if b is 0.");
        String[] values = {"NIL", "PUSH 4", "NIL; NEW"};
        int[] numbers = {0, 4, 2};
        for (int kind = 0; kind <= 2; kind++) {
            Check.prints(OBJECT + "DUP; " + values[kind] + "; SET 1; SEND 1 0; PRINT", kind, numbers[kind]);
            Check.same("values with kind " + kind, 3,
                Check.ran("PUSH 8; PUSH 9;" + OBJECT + "DUP; " + values[kind] + "; SET 1; SEND 1 0").many(11));
            Check.same("the end with a value sent", 7,
                Check.ran(OBJECT + "DUP; " + values[kind] + "; SET 1; NIL; SEND 1 1").step());
        }
        Check.of("Terms", "30 SELF.");
        Check.prints("SELF; PRINT", 0, 0);
        Check.prints(METHOD + "SEND 1 0; HALT; LABEL 1; ENTER 0 0; SELF; PRINT", 2, 1);
        Check.prints(METHOD + "PROTO 1; PUSH 0; SEND 1 0; HALT; LABEL 1; ENTER 0 0; SELF; PRINT", 1, 0);
    }

    private static void returns() {
        Check.of("Terms", "31 RETURN: a value goes; what was called is over (its other values go, too),"
            + " and that value comes to who called;");
        for (int more = 0; more <= 3; more++) {
            ProtoMachine m = Check.linked(60, 200, "PUSH 50;" + METHOD + "SEND 1 0; HALT; LABEL 1; ENTER 0 0;"
                + Check.repeat("PUSH 3", more) + "PUSH 4; RETURN");
            m.run(1 + 5 + 1 + more + 2);
            Check.same("stands behind the SEND, with " + more, 7, m.many(10));
            Check.same("frames with " + more, 1, m.many(12));
            Check.same("values with " + more, 2, m.many(11));
            Check.same("what came with " + more, 4, m.pile(0, 1));
            Check.same("what lay there with " + more, 50, m.pile(1, 1));
        }
        Check.ends("PUSH 50;" + METHOD + "SEND 1 0; HALT; LABEL 1; ENTER 0 0; RETURN", 5, 10, 1);
        Check.of("Terms", "in the code called by none the machine HALTS (the value stays).");
        Check.ends("RETURN", 5, 0, 0);
        Check.ends("PUSH 4; RETURN; NIL", 1, 1, 1);
        Check.ends("PUSH 3; PUSH 4; RETURN; NIL", 1, 2, 2);
        Check.same("the value", 4, Check.ran("PUSH 3; PUSH 4; RETURN").pile(0, 1));
        Check.of("Terms", "32 PRINT: a value goes to OUT.");
        Check.ends("PRINT", 5, 0, 0);
        ProtoMachine m = Check.ran("PUSH 3; PUSH 4; PRINT");
        Check.same("it went", 1, m.many(11));
        Check.same("OUT", 1, m.outSize());
        Check.same("what it has", 4, m.out(0, 1));
    }

    private static void wordsThatDoNothing() {
        Check.of("Terms", "33 LABEL a: nothing.");
        Check.ends("LABEL 0", 1, 1, 0);
        Check.ends("PUSH 3; LABEL 199; PUSH 4", 1, 3, 2);
        Check.same("a label is a step", 4, Check.ran("PUSH 3; LABEL 199; PUSH 4").many(9));
        Check.of("Terms", "34 ENTER a b: nothing, if it is come to without a call.");
        for (String enter : new String[] {"ENTER 0 0", "ENTER 15 0", "ENTER 0 15", "ENTER 7 8"}) {
            ProtoMachine m = Check.linked(60, 200, "PUSH 3; " + enter + "; LOCAL 15; JUMP 1; LABEL 1; " + enter + "; HALT");
            Check.same("end with " + enter, 1, m.run(100));
            Check.same("frames with " + enter, 1, m.many(12));
            Check.same("values with " + enter, 2, m.many(11));
            Check.same("steps with " + enter, 6, m.many(9));
        }
    }

    private static void calls() {
        Check.of("Terms", "A method is CALLED: at its place stands ENTER a b, with a the number of values;");
        for (int sent = 0; sent <= 8; sent++) {
            for (int entered = Math.max(0, sent - 1); entered <= sent + 1; entered++) {
                ProtoMachine m = Check.ran(METHOD + Check.repeat("NIL", sent) + "SEND 1 " + sent
                    + "; HALT; LABEL 1; ENTER " + entered + " 2; HALT");
                Check.same(sent + " sent, " + entered + " wanted", sent == entered ? 1 : 7, m.step());
                Check.same("frames then", sent == entered ? 2 : 1, m.many(12));
            }
        }
        Check.ends(METHOD + "SEND 1 0; HALT; LABEL 1; LABEL 2; ENTER 0 0; HALT", 7, 5, 1);
        Check.ends(METHOD + "SEND 1 0; HALT; ENTER 0 0; LABEL 1; HALT", 7, 5, 1);
        Check.ends(METHOD + "SEND 1 0; HALT; LABEL 1", 7, 5, 1);
        Check.of("Terms", "a new FRAME has self (the receiver), a + b locals: the values, in order, then NIL;"
            + " it goes on behind the ENTER.");
        int[][] given = {{0, 0}, {0, 1}, {1, 0}, {1, 1}, {2, 3}, {8, 7}, {0, 15}};
        for (int[] each : given) {
            StringBuilder code = new StringBuilder("PUSH 8; STORE 0; PUSH 8; STORE 15;" + METHOD + "NEW;");
            for (int i = 0; i < each[0]; i++) {
                code.append("PUSH ").append(20 + i).append(";");
            }
            code.append("SEND 1 ").append(each[0]).append("; HALT; LABEL 1; ENTER ").append(each[0]).append(" ")
                .append(each[1]).append("; NIL; HALT");
            frameOf(Check.linked(60, 200, code.toString()), each[0], each[1]);
        }
    }

    private static void frameOf(ProtoMachine m, int a, int b) {
        String of = " of ENTER " + a + " " + b;
        m.run(4 + 5 + 1 + a + 1);
        Check.same("stands behind the ENTER" + of, 4 + 5 + 1 + a + 1 + 3, m.many(10));
        Check.same("self" + of, 2, m.local(16, 1));
        for (int k = 0; k < 16; k++) {
            Check.same("kind of local " + k + of, k < a ? 1 : k < a + b ? 0 : BAD, m.local(k, 0));
            Check.same("local " + k + of, k < a ? 20 + k : k < a + b ? 0 : BAD, m.local(k, 1));
        }
    }

    private static void firstFrame() {
        Check.of("Terms", "The first frame has self NIL and 16 locals, NIL.");
        ProtoMachine m = Check.ran("SELF; LOCAL 0; LOCAL 15; PUSH 3; STORE 15");
        Check.same("end", 1, m.step());
        for (int k = 0; k < 3; k++) {
            Check.same("NIL " + k, 0, m.pile(k, 0));
        }
        Check.same("the sixteenth", 3, m.local(15, 1));
        ProtoMachine fresh = Check.linked(20, 60, "NIL");
        for (int k = 0; k <= 16; k++) {
            Check.same("kind of " + k, 0, fresh.local(k, 0));
        }
        Check.same("a seventeenth", BAD, fresh.local(17, 0));
    }

    private static void framesOfThePile() {
        Check.of("Terms", "THE PILE is one for all; a frame can't take what lay there before it began.");
        String call = "PUSH 50; PUSH 51;" + METHOD + "SEND 1 0; HALT; LABEL 1; ENTER 0 0; ";
        String[] takesOne = {"POP", "DUP", "PRINT", "STORE 0", "KEEP 0", "UNLESS 1", "GET 0", "HAS 0", "RETURN", "NEW"};
        for (String op : takesOne) {
            Check.ends(call.replace("ENTER 0 0", "ENTER 0 1") + op, 5, 11, 2);
        }
        String[] takesTwo = {"SWAP", "ADD", "LESS", "EQUAL", "SET 1", "ADOPT", "SEND 1 1"};
        for (String op : takesTwo) {
            Check.ends(call + op, 5, 11, 2);
            Check.ends(call + "PUSH 3; " + op, 5, 12, 3);
        }
        Check.ends(call + "PUSH 3; PUSH 4; ADD", 1, 14, 3);
        ProtoMachine after = Check.ran(call.replace("HALT; LABEL", "ADD; ADD; HALT; LABEL") + "PUSH 1; RETURN");
        Check.same("who called can take it again", 102, after.pile(0, 1));
    }

    /** Tells the fault of the latest word of a code in which labels 0 and 199 are. */
    private static void operand(String word, int due) {
        fault("LABEL 0; LABEL 199; " + word, 2, due);
    }

    private static void fault(String code, int word, int due) {
        ProtoMachine m = new ProtoMachine(20, 60);
        Check.lay(m, code);
        Check.same("link of " + code, due == 0 ? 0 : -10 - word, m.link());
        Check.same("fault of " + code, due, m.fault());
        Check.holds("linked or not: " + code, (m.run(0) == 0) == (due == 0));
    }

    private static void firstAndLeastFault() {
        Check.of("Terms", "LINKED: FAULTS at the first word that has one, of one word the least:");
        fault("NIL 1; JUMP 7; LABEL 1; LABEL 1", 0, 2);
        fault("NIL; JUMP 7; LABEL 1; LABEL 1; NIL 1", 1, 4);
        fault("NIL; LABEL 1; LABEL 1; JUMP 7; NIL 1", 2, 3);
        fault("NIL; NIL; NIL; NIL; NIL 1", 4, 2);
        fault("JUMP 7 1", 0, 2);
        fault("LABEL 1; LABEL 1 1", 1, 2);
        fault("JUMP 200", 0, 2);
        ProtoMachine m = new ProtoMachine(20, 60);
        m.asm(2, 0, 0);
        m.asm(35, 1, 1);
        m.asm(35, 0, 0);
        Check.same("no operation, and operands", -11, m.link());
        Check.same("the least", 1, m.fault());
    }

    private static void noSuchOperation() {
        Check.of("Terms", "1 no such operation;");
        for (int op : new int[] {Integer.MIN_VALUE, -2, -1, 0, 1, 33, 34, 35, 36, 64, 256, Integer.MAX_VALUE}) {
            ProtoMachine m = new ProtoMachine(20, 60);
            m.asm(op, 0, 0);
            boolean is = op >= 0 && op <= 34;
            Check.same("link of " + op, is ? 0 : -10, m.link());
            Check.same("fault of " + op, is ? 0 : 1, m.fault());
        }
        for (int op = 0; op <= 34; op++) {
            ProtoMachine m = new ProtoMachine(20, 60);
            m.asm(op == 33 ? 0 : 33, 0, 0);
            m.asm(op, 0, 0);
            Check.same("operation " + op, 0, m.link());
        }
    }

    private static void range(String names, int least, int most) {
        for (String name : names.split(" ")) {
            String[] due = {name + " " + least, name + " " + (least + 1), name + " " + (most - 1), name + " " + most};
            for (String word : due) {
                operand(word, 0);
            }
            operand(name + " " + (least - 1), 2);
            operand(name + " " + (most + 1), 2);
            operand(name + " " + Integer.MIN_VALUE, 2);
            operand(name + " " + Integer.MAX_VALUE, 2);
        }
    }

    private static void operandsOutOfRange() {
        Check.of("Terms", "2 an operand out of range: PUSH no int;");
        range("PUSH", LEAST, MOST);
        Check.of("Terms", "LOCAL, STORE, ENTER's a and b 0 .. 15 (a + b, too);");
        range("LOCAL STORE ENTER", 0, 15);
        for (int a = 0; a <= 15; a++) {
            operand("ENTER " + a + " " + (15 - a), 0);
            operand("ENTER " + a + " " + (16 - a), 2);
            operand("ENTER " + a + " -1", 2);
        }
        operand("ENTER -1 5", 2);
        operand("ENTER 16 -1", 2);
        operand("ENTER -1 16", 2);
        operand("ENTER " + Integer.MAX_VALUE + " " + Integer.MAX_VALUE, 2);
        operand("ENTER " + Integer.MIN_VALUE + " " + Integer.MIN_VALUE, 2);
        Check.of("Terms", "GLOBAL, KEEP 0 .. 15;");
        range("GLOBAL KEEP", 0, 15);
        Check.of("Terms", "names 0 .. 63;");
        range("GET SET DROP HAS SEND", 0, 63);
        Check.of("Terms", "labels 0 .. 199;");
        for (String name : "JUMP UNLESS METHOD".split(" ")) {
            operand(name + " 0", 0);
            operand(name + " 199", 0);
        }
        operand("LABEL 1", 0);
        operand("LABEL 198", 0);
        for (String name : "JUMP UNLESS METHOD LABEL".split(" ")) {
            for (int label : new int[] {Integer.MIN_VALUE, -1, 200, 201, Integer.MAX_VALUE}) {
                operand(name + " " + label, 2);
            }
        }
        Check.of("Terms", "PROTO's; SEND's b; any other operand but 0;");
        for (int kind = -1; kind <= 4; kind++) {
            operand("PROTO " + kind, kind == 0 || kind == 1 || kind == 3 ? 0 : 2);
        }
        for (int b = -1; b <= 9; b++) {
            operand("SEND 63 " + b, b >= 0 && b <= 8 ? 0 : 2);
        }
        othersAreNought();
    }

    private static void othersAreNought() {
        String bare = "HALT NIL POP DUP SWAP ADD SUB MUL DIV REM LESS EQUAL NEW CLONE PARENT ADOPT SELF RETURN PRINT";
        String withA = "PUSH JUMP UNLESS LOCAL STORE GLOBAL KEEP GET SET DROP HAS PROTO METHOD";
        for (String name : bare.split(" ")) {
            for (int a : new int[] {Integer.MIN_VALUE, -1, 0, 1, Integer.MAX_VALUE}) {
                operand(name + " " + a, a == 0 ? 0 : 2);
            }
        }
        for (String name : (bare + " " + withA).split(" ")) {
            for (int b : new int[] {Integer.MIN_VALUE, -1, 0, 1, Integer.MAX_VALUE}) {
                operand(name + " 0 " + b, b == 0 ? 0 : 2);
            }
        }
        operand("LABEL 1 1", 2);
        operand("LABEL 1 -1", 2);
    }

    private static void labelsTwice() {
        Check.of("Terms", "3 LABEL of a label that a LABEL before has;");
        for (int label : new int[] {0, 1, 198, 199}) {
            fault("LABEL " + label + "; NIL; LABEL " + label, 2, 3);
            fault("LABEL " + label + "; NIL; LABEL " + (label ^ 1), 0, 0);
            fault("LABEL " + label + "; LABEL " + label + "; LABEL " + label, 1, 3);
        }
        fault("JUMP 1; LABEL 1; LABEL 1", 2, 3);
        fault("LABEL 1 1; LABEL 1", 0, 2);
        ProtoMachine m = new ProtoMachine(20, 60);
        Check.lay(m, "LABEL 1; NIL");
        m.link();
        Check.same("once more is not twice", 0, m.link());
    }

    private static void labelsMissing() {
        Check.of("Terms", "4 a label that no LABEL has (LABELs with a fault 2 have none).");
        for (String name : "JUMP UNLESS METHOD".split(" ")) {
            for (int label : new int[] {0, 1, 199}) {
                fault("NIL; " + name + " " + label, 1, 4);
                fault("LABEL " + (label ^ 1) + "; " + name + " " + label, 1, 4);
                fault("NIL; " + name + " " + label + "; LABEL " + label, 0, 0);
                fault("LABEL " + label + "; " + name + " " + label, 0, 0);
                fault("NIL; " + name + " " + label + "; LABEL " + label + " 1", 1, 4);
                fault("NIL; " + name + " " + label + "; LABEL " + label + " 1; LABEL " + label, 2, 2);
            }
        }
    }
}
