/** Promises 6 to 8 and the operations: step, run, restart, and the ends 0 to 10 with their order. */
public final class StepsTest {
    private static final String OBJECT = "NIL; NEW;";

    public static void main(String[] args) {
        step();
        run();
        restart();
        halts();
        values();
        arithmetic();
        comparisons();
        jumps();
        locals();
        globals();
        objects();
        chains();
        adopt();
        slotsEnd();
        methods();
        callsThatFail();
        returns();
        pileEnd();
        framesEnd();
        framesKeepWhatIsBelow();
        reasonsInOrder();
        nothingChangesWithABadEnd();
        Check.end("StepsTest");
    }

    private static void step() {
        ProtoMachine m = Check.linked(20, 60, "PUSH 4; POP; POP; NIL");
        Check.same("first step", 0, m.step());
        Check.same("stands at", 1, m.many(10));
        Check.same("steps", 1, m.many(9));
        Check.same("second step", 0, m.step());
        Check.same("a bad step", 5, m.step());
        Check.same("it stays so", 5, m.step());
        Check.same("a bad step is none", 2, m.many(9));
        Check.same("stands at the wrong word", 2, m.many(10));
    }

    private static void run() {
        ProtoMachine m = Check.linked(20, 60, "LABEL 1; PUSH 1; POP; JUMP 1");
        Check.same("run(-1)", Check.BAD, m.run(-1));
        Check.same("run(20001)", Check.BAD, m.run(20001));
        Check.same("run(least)", Check.BAD, m.run(Integer.MIN_VALUE));
        Check.same("run(most)", Check.BAD, m.run(Integer.MAX_VALUE));
        Check.same("no step by these", 0, m.many(9));
        Check.same("run(0)", 0, m.run(0));
        Check.same("no step by run(0)", 0, m.many(9));
        Check.same("run(20000)", 0, m.run(20000));
        Check.same("so many steps", 20000, m.many(9));
        Check.same("run(3)", 0, m.run(3));
        Check.same("three more", 20003, m.many(9));
        ProtoMachine halting = Check.linked(20, 60, "NIL; HALT; NIL");
        Check.same("run(1)", 0, halting.run(1));
        Check.same("run to the end", 1, halting.run(5));
        Check.same("steps with HALT", 2, halting.many(9));
        Check.same("run when ended", 1, halting.run(5));
        Check.same("no more steps", 2, halting.many(9));
    }

    private static void restart() {
        ProtoMachine m = Check.linked(20, 60,
            OBJECT + "DUP; KEEP 0; DUP; STORE 3; PROTO 1; GLOBAL 0; PUSH 2; SET 1; PUSH 9; GET 1; PRINT; PUSH 5; HALT");
        Check.same("run", 1, m.run(100));
        Check.same("steps", 15, m.restart());
        for (int what = 0; what <= 11; what++) {
            Check.same("many(" + what + ") after restart", 0, m.many(what));
        }
        Check.same("frames after restart", 1, m.many(12));
        Check.same("words after restart", 15, m.many(13));
        Check.same("OUT after restart", 0, m.outSize());
        Check.same("out after restart", Check.BAD, m.out(0, 0));
        Check.same("pile after restart", Check.BAD, m.pile(0, 0));
        Check.same("local after restart", 0, m.local(3, 0));
        Check.same("object after restart", Check.BAD, m.object(1, 0));
        Check.same("restart of a new one", 0, m.restart());
        Check.same("it runs again", 1, m.run(100));
        Check.same("serials begin again", 0, m.object(1, 0));
        Check.same("only one", Check.BAD, m.object(2, 0));
        Check.same("nothing was remembered", 0, m.many(7));
        ProtoMachine globals = Check.linked(20, 60, "GLOBAL 4; PRINT; PUSH 1; KEEP 4; PUSH 3; HAS 1; PRINT;"
            + "NIL; HAS 1; PRINT; METHOD 1; HAS 1; PRINT; LABEL 1;"
            + OBJECT + "DUP; PUSH 1; SET 1; DUP; PROTO 0; DUP; PROTO 1; PROTO 3; HALT");
        globals.run(100);
        globals.restart();
        globals.run(100);
        Check.same("a global is NIL", 0, globals.out(0, 0));
        for (int i = 1; i <= 3; i++) {
            Check.same("PROTO " + i + " is NIL", 0, globals.out(i, 1));
        }
        ProtoMachine bad = Check.linked(20, 60, "NIL; POP; POP");
        bad.run(10);
        Check.same("steps of a bad one", 2, bad.restart());
        Check.same("it is running", 0, bad.run(0));
    }

    private static void halts() {
        Check.ends("PUSH 1; HALT; PUSH 2", 1, 1, 1);
        Check.ends("PUSH 1; PUSH 2", 1, 2, 2);
        ProtoMachine m = Check.ran("PUSH 1; PUSH 2");
        Check.same("a step behind the last word", 3, m.many(9));
        Check.ends("PUSH 1; PUSH 2; RETURN; NIL", 1, 2, 2);
        Check.same("a RETURN that halts is a step", 3, Check.ran("PUSH 1; PUSH 2; RETURN").many(9));
        Check.ends("RETURN", 5, 0, 0);
    }

    private static void values() {
        Check.prints("PUSH -1073741824; PRINT", 1, -1073741824);
        Check.prints("PUSH 1073741823; PRINT", 1, 1073741823);
        Check.prints("NIL; PRINT", 0, 0);
        Check.prints("PUSH 3; PUSH 4; POP; PRINT", 1, 3);
        Check.prints("PUSH 3; DUP; ADD; PRINT", 1, 6);
        Check.prints("PUSH 3; PUSH 4; SWAP; PRINT", 1, 3);
        Check.prints("PUSH 3; PUSH 4; SWAP; PRINT; PRINT", 1, 4);
        Check.prints("SELF; PRINT", 0, 0);
        Check.prints("METHOD 7; PRINT; HALT; LABEL 7; NIL", 3, 4);
        Check.prints(OBJECT + "PRINT", 2, 1);
        Check.prints(OBJECT + OBJECT + "PRINT", 2, 2);
        Check.prints("ENTER 3 4; PUSH 2; PRINT", 1, 2);
        for (String code : new String[] {"POP", "DUP", "PUSH 1; SWAP", "PRINT", "STORE 0", "KEEP 0"}) {
            Check.ends(code, 5, code.startsWith("PUSH") ? 1 : 0, code.startsWith("PUSH") ? 1 : 0);
        }
    }

    private static void reckons(int first, int second, String op, int due) {
        Check.prints("PUSH " + first + "; PUSH " + second + "; " + op + "; PRINT", 1, due);
    }

    private static void reckoningEnds(int first, int second, String op, int due) {
        Check.ends("PUSH " + first + "; PUSH " + second + "; " + op, due, 2, 2);
    }

    private static void arithmetic() {
        int most = 1073741823;
        int least = -1073741824;
        reckons(7, 5, "ADD", 12);
        reckons(7, 5, "SUB", 2);
        reckons(7, -5, "MUL", -35);
        reckons(7, 2, "DIV", 3);
        reckons(-7, 2, "DIV", -3);
        reckons(7, -2, "DIV", -3);
        reckons(-7, -2, "DIV", 3);
        reckons(7, 3, "REM", 1);
        reckons(-7, 3, "REM", -1);
        reckons(7, -3, "REM", 1);
        reckons(-7, -3, "REM", -1);
        reckons(least, -1, "REM", 0);
        reckons(most, 0, "ADD", most);
        reckons(most - 1, 1, "ADD", most);
        reckons(least + 1, 1, "SUB", least);
        reckons(32768, -32768, "MUL", least);
        reckons(least, 1, "DIV", least);
        reckoningEnds(most, 1, "ADD", 6);
        reckoningEnds(least, -1, "ADD", 6);
        reckoningEnds(least, 1, "SUB", 6);
        reckoningEnds(most, -1, "SUB", 6);
        reckoningEnds(32768, 32768, "MUL", 6);
        reckoningEnds(least, least, "MUL", 6);
        reckoningEnds(65536, 65536, "MUL", 6);
        reckoningEnds(least, -1, "DIV", 6);
        reckoningEnds(1, 0, "DIV", 4);
        reckoningEnds(0, 0, "REM", 4);
        for (String op : "ADD SUB MUL DIV REM LESS".split(" ")) {
            Check.ends(op, 5, 0, 0);
            Check.ends("NIL; " + op, 5, 1, 1);
            Check.ends("NIL; PUSH 1; " + op, 3, 2, 2);
            Check.ends("PUSH 1; NIL; " + op, 3, 2, 2);
            Check.ends("PUSH 1; LABEL 1; METHOD 1; " + op, 3, 3, 2);
            Check.ends(OBJECT + "PUSH 0; " + op, 3, 3, 2);
        }
    }

    private static void comparisons() {
        reckons(1, 2, "LESS", 1);
        reckons(2, 2, "LESS", 0);
        reckons(3, 2, "LESS", 0);
        reckons(-3, -2, "LESS", 1);
        reckons(2, 2, "EQUAL", 1);
        reckons(2, 3, "EQUAL", 0);
        Check.prints("NIL; NIL; EQUAL; PRINT", 1, 1);
        Check.prints("NIL; PUSH 0; EQUAL; PRINT", 1, 0);
        Check.prints(OBJECT + "DUP; EQUAL; PRINT", 1, 1);
        Check.prints(OBJECT + OBJECT + "EQUAL; PRINT", 1, 0);
        Check.prints(OBJECT + "PUSH 1; EQUAL; PRINT", 1, 0);
        Check.prints("LABEL 1; METHOD 1; METHOD 1; EQUAL; PRINT", 1, 1);
        Check.prints("LABEL 1; LABEL 2; METHOD 1; METHOD 2; EQUAL; PRINT", 1, 0);
        Check.prints("LABEL 1; METHOD 1; PUSH 1; EQUAL; PRINT", 1, 0);
    }

    private static void jumps() {
        Check.prints("JUMP 2; PUSH 1; PRINT; LABEL 2; PUSH 3; PRINT", 1, 3);
        String unless = "; UNLESS 2; PUSH 1; PRINT; HALT; LABEL 2; PUSH 0; PRINT";
        Check.prints("NIL" + unless, 1, 0);
        Check.prints("PUSH 0" + unless, 1, 0);
        Check.prints("PUSH 1" + unless, 1, 1);
        Check.prints("PUSH -1" + unless, 1, 1);
        Check.prints(OBJECT + "PUSH 0; POP" + unless, 1, 1);
        Check.prints("METHOD 2" + unless, 1, 1);
        Check.ends("LABEL 2; UNLESS 2", 5, 1, 0);
        ProtoMachine m = Check.linked(20, 60, "JUMP 2; NIL; LABEL 2; NIL");
        m.step();
        Check.same("a label is the word behind", 3, m.many(10));
    }

    private static void locals() {
        Check.prints("PUSH 5; STORE 15; LOCAL 15; PRINT", 1, 5);
        Check.prints("LOCAL 15; PRINT", 0, 0);
        String call = OBJECT + "DUP; METHOD 1; SET 1; PUSH 6; PUSH 7; SEND 1 2; PRINT; HALT; LABEL 1; ENTER 2 1; ";
        Check.prints(call + "LOCAL 0; RETURN", 1, 6);
        Check.prints(call + "LOCAL 1; RETURN", 1, 7);
        Check.prints(call + "LOCAL 2; RETURN", 0, 0);
        Check.ends(call + "LOCAL 3; RETURN", 5, 12, 0);
        Check.ends(call + "PUSH 1; STORE 3; RETURN", 5, 13, 1);
        Check.prints(call + "PUSH 8; STORE 2; LOCAL 2; RETURN", 1, 8);
    }

    private static void globals() {
        Check.prints("PUSH 5; KEEP 15; GLOBAL 15; PRINT", 1, 5);
        Check.prints("GLOBAL 0; PRINT", 0, 0);
        Check.prints("PUSH 4; KEEP 2;" + OBJECT
            + "DUP; METHOD 1; SET 1; SEND 1 0; PRINT; HALT; LABEL 1; ENTER 0 0; GLOBAL 2; RETURN", 1, 4);
    }

    private static void objects() {
        ProtoMachine m = Check.ran(OBJECT + "DUP; NEW; DUP; PUSH 5; SET 9; DUP; NIL; SET 4; DUP; CLONE;"
            + "DUP; PUSH 6; SET 9; DUP; DROP 9; DUP; PUSH 1; SET 9; DUP; PARENT");
        Check.same("values", 4, m.many(11));
        Check.same("PARENT is the first", 1, m.pile(0, 1));
        Check.same("a copy", 3, m.pile(1, 1));
        Check.same("its model", 2, m.pile(2, 1));
        Check.same("parent of the new", 1, m.object(2, 3));
        Check.same("parent of the copy", 1, m.object(3, 3));
        Check.same("slots of the copy", 2, m.object(3, 2));
        Check.same("the first name of the model", 9, m.slot(2, 0, 0));
        Check.same("the model's value", 5, m.slot(2, 0, 2));
        Check.same("what was dropped came last", 9, m.slot(3, 1, 0));
        Check.same("what followed it comes first", 4, m.slot(3, 0, 0));
        Check.ends("NEW", 5, 0, 0);
        Check.ends("PUSH 0; NEW", 3, 1, 1);
        Check.ends("LABEL 1; METHOD 1; NEW", 3, 2, 1);
        Check.ends("NIL; CLONE", 3, 1, 1);
        Check.ends("CLONE", 5, 0, 0);
        Check.ends("NIL; SET 1", 5, 1, 1);
        Check.ends("NIL; NIL; SET 1", 3, 2, 2);
        Check.ends("PUSH 1; " + OBJECT + "SET 1", 3, 3, 2);
        Check.ends("DROP 1", 5, 0, 0);
        Check.ends("PUSH 1; DROP 1", 3, 1, 1);
        Check.ends(OBJECT + "DROP 1", 2, 2, 1);
        Check.ends(OBJECT + "DUP; PUSH 1; SET 1; NEW; DROP 1", 2, 6, 1);
        Check.ends("NIL; PARENT", 3, 1, 1);
        Check.ends("PARENT", 5, 0, 0);
        Check.prints(OBJECT + "PARENT; PRINT", 0, 0);
    }

    private static void chains() {
        String family = OBJECT + "DUP; PUSH 5; SET 1; DUP; PUSH 6; SET 2; NEW; DUP; PUSH 7; SET 2; NEW;";
        Check.prints(family + "GET 1; PRINT", 1, 5);
        Check.prints(family + "GET 2; PRINT", 1, 7);
        Check.ends(family + "GET 3", 2, 13, 1);
        Check.prints(family + "HAS 1; PRINT", 1, 1);
        Check.prints(family + "HAS 3; PRINT", 1, 0);
        Check.prints(family + "SEND 2 0; PRINT", 1, 7);
        Check.ends(family + "SEND 3 0", 2, 13, 1);
        Check.ends("GET 1", 5, 0, 0);
        Check.ends("HAS 1", 5, 0, 0);
        for (int kind : new int[] {0, 1, 3}) {
            String value = kind == 0 ? "NIL;" : kind == 1 ? "PUSH 9;" : "METHOD 1;";
            Check.ends("LABEL 1; " + value + "GET 1", 2, 2, 1);
            Check.prints("LABEL 1; " + value + "HAS 1; PRINT", 1, 0);
            String with = "LABEL 1; " + family + "PROTO " + kind + ";" + value;
            Check.prints(with + "GET 1; PRINT", 1, 5);
            Check.prints(with + "HAS 2; PRINT", 1, 1);
            Check.prints(with + "SEND 2 0; PRINT", 1, 7);
            Check.ends(with + "NIL; PROTO " + kind + "; GET 1", 2, 18, 1);
        }
        Check.ends(family + "PROTO 1; NIL; GET 1", 2, 15, 1);
        Check.ends("PROTO 1", 5, 0, 0);
        Check.ends("PUSH 1; PROTO 1", 3, 1, 1);
        Check.ends("LABEL 1; METHOD 1; PROTO 3", 3, 2, 1);
    }

    private static void adopt() {
        String two = OBJECT + "KEEP 0; GLOBAL 0; NEW; KEEP 1;";
        Check.ends(two + "GLOBAL 0; GLOBAL 1; ADOPT", 9, 8, 2);
        Check.ends(two + "GLOBAL 0; GLOBAL 0; ADOPT", 9, 8, 2);
        Check.prints(two + "GLOBAL 1; NIL; ADOPT; GLOBAL 1; PARENT; PRINT", 0, 0);
        Check.prints(two + "GLOBAL 1; NIL; ADOPT; GLOBAL 0; GLOBAL 1; ADOPT; GLOBAL 0; PARENT; PRINT", 2, 2);
        Check.ends(two + "GLOBAL 1; NEW; KEEP 2; GLOBAL 0; GLOBAL 2; ADOPT", 9, 11, 2);
        Check.ends("ADOPT", 5, 0, 0);
        Check.ends("NIL; ADOPT", 5, 1, 1);
        Check.ends("NIL; NIL; ADOPT", 3, 2, 2);
        Check.ends(OBJECT + "PUSH 1; ADOPT", 3, 3, 2);
        Check.ends("PUSH 1;" + OBJECT + "ADOPT", 3, 3, 2);
        ProtoMachine m = Check.ran(two + "GLOBAL 1; GLOBAL 0; ADOPT");
        Check.same("the same parent is no change", 0, m.object(2, 4));
        ProtoMachine other = Check.ran(two + "GLOBAL 1; NIL; ADOPT");
        Check.same("another parent is one", 9, other.object(2, 4));
    }

    private static void slotsEnd() {
        StringBuilder code = new StringBuilder(OBJECT);
        for (int name = 0; name < 40; name++) {
            code.append("DUP; PUSH ").append(name).append("; SET ").append(63 - name).append(";");
        }
        ProtoMachine m = Check.ran(code.toString());
        Check.same("40 slots", 40, m.object(1, 2));
        Check.same("its size", 43, m.object(1, 1));
        Check.same("the last name", 24, m.slot(1, 39, 0));
        Check.same("the last value", 39, m.slot(1, 39, 2));
        Check.ends(code + "DUP; PUSH 1; SET 0", 10, 124, 3);
        Check.prints(code + "DUP; PUSH 77; SET 24; GET 24; PRINT", 1, 77);
        Check.prints(code + "DUP; DROP 50; DUP; PUSH 1; SET 0; GET 0; PRINT", 1, 1);
    }

    private static void methods() {
        String call = OBJECT + "DUP; METHOD 1; SET 1; ";
        Check.prints(call + "SEND 1 0; PRINT; HALT; LABEL 1; ENTER 0 0; SELF; RETURN", 2, 1);
        Check.prints(call + "NEW; SEND 1 0; PRINT; HALT; LABEL 1; ENTER 0 0; SELF; RETURN", 2, 2);
        Check.prints(call + "PROTO 1; PUSH 8; SEND 1 0; PRINT; HALT; LABEL 1; ENTER 0 0; SELF; RETURN", 1, 8);
        Check.prints(call + repeatedPushes(8) + "SEND 1 8; PRINT; HALT; LABEL 1; ENTER 8 7; LOCAL 7; RETURN", 1, 8);
        Check.prints(call + repeatedPushes(8) + "SEND 1 8; PRINT; HALT; LABEL 1; ENTER 8 7; LOCAL 0; RETURN", 1, 1);
        ProtoMachine m = Check.linked(60, 200, call
            + "PUSH 3; SEND 1 1; PRINT; HALT; LABEL 1; ENTER 1 1; PUSH 4; LOCAL 0; RETURN");
        m.run(7);
        Check.same("frames in a call", 2, m.many(12));
        Check.same("values in a call", 0, m.many(11));
        Check.same("stands behind the ENTER", 11, m.many(10));
        Check.same("self", 1, m.local(16, 1));
        Check.same("a local", 3, m.local(0, 1));
        Check.same("the other is NIL", 0, m.local(1, 0));
        Check.same("no third", Check.BAD, m.local(2, 0));
        m.run(3);
        Check.same("back", 7, m.many(10));
        Check.same("frames after it", 1, m.many(12));
        Check.same("its other values went", 1, m.many(11));
        Check.same("what came", 3, m.pile(0, 1));
    }

    private static String repeatedPushes(int n) {
        StringBuilder code = new StringBuilder();
        for (int i = 1; i <= n; i++) {
            code.append("PUSH ").append(i).append(";");
        }
        return code.toString();
    }

    private static void callsThatFail() {
        String call = OBJECT + "DUP; METHOD 1; SET 1; ";
        Check.ends(call + "SEND 1 0; HALT; LABEL 1; NIL; ENTER 0 0", 7, 5, 1);
        Check.ends(call + "SEND 1 0; HALT; LABEL 1", 7, 5, 1);
        Check.ends(call + "SEND 1 0; HALT; LABEL 1; ENTER 1 0", 7, 5, 1);
        Check.ends(call + "PUSH 1; SEND 1 1; HALT; LABEL 1; ENTER 0 1", 7, 6, 2);
        Check.ends(call + "SEND 1 1; HALT; LABEL 1; ENTER 1 0", 5, 5, 1);
        Check.ends(call + "PUSH 1; SEND 2 1; HALT; LABEL 1; ENTER 1 0", 2, 6, 2);
        Check.ends(OBJECT + "DUP; PUSH 4; SET 1; PUSH 5; SEND 1 1", 7, 6, 2);
        Check.ends(OBJECT + "DUP; NIL; SET 1; PUSH 5; SEND 1 1", 7, 6, 2);
        Check.prints(OBJECT + "DUP; NIL; SET 1; SEND 1 0; PRINT", 0, 0);
    }

    private static void returns() {
        String call = OBJECT + "DUP; METHOD 1; SET 1; PUSH 50; SWAP; SEND 1 0; PRINT; PRINT; HALT; LABEL 1; ENTER 0 0; ";
        Check.ends(call + "RETURN", 5, 13, 1);
        Check.prints(call + "PUSH 1; PUSH 2; PUSH 3; RETURN", 1, 50);
        ProtoMachine m = Check.ran(call + "PUSH 1; PUSH 2; PUSH 3; RETURN");
        Check.same("the uppermost comes", 3, m.out(0, 1));
        Check.ends(call + "PUSH 1; HALT", 1, 14, 2);
        Check.same("HALT within a call", 2, Check.ran(call + "PUSH 1; HALT").many(12));
    }

    private static void pileEnd() {
        String start = "PUSH 0; KEEP 0;"
            + "LABEL 1; PUSH 5; GLOBAL 0; PUSH 1; ADD; DUP; KEEP 0; PUSH 998; EQUAL; UNLESS 1;";
        ProtoMachine m = Check.linked(20, 60, start + "NIL; SELF; LOCAL 0");
        Check.same("998 values, two more, and one too many", 5, m.run(20000));
        Check.same("values", 1000, m.many(11));
        Check.same("the uppermost", 0, m.pile(0, 0));
        Check.same("the lowest", 5, m.pile(999, 1));
        Check.same("below it", Check.BAD, m.pile(1000, 0));
        for (String op : "PUSH 1,NIL,DUP,LOCAL 0,GLOBAL 0,SELF,METHOD 1".split(",")) {
            ProtoMachine each = Check.linked(20, 60, start + "NIL; NIL; " + op);
            Check.same("a 1001st by " + op, 5, each.run(20000));
            Check.same("values with " + op, 1000, each.many(11));
            ProtoMachine last = Check.linked(20, 60, start + "NIL; " + op);
            Check.same("a 1000th by " + op, 1, last.run(20000));
        }
        ProtoMachine same = Check.linked(20, 60, start + "NIL; NIL; NEW; HAS 1; SWAP; POP");
        Check.same("what takes one may bring one", 1, same.run(20000));
        Check.same("values at last", 999, same.many(11));
    }

    private static void framesEnd() {
        ProtoMachine m = Check.linked(20, 60, OBJECT + "DUP; METHOD 1; SET 1; SEND 1 0; HALT;"
            + "LABEL 1; ENTER 0 0; GLOBAL 0; PUSH 1; ADD; KEEP 0; SELF; SEND 1 0");
        Check.same("GLOBAL 0 is NIL", 3, m.run(20000));
        ProtoMachine deep = Check.linked(20, 60, OBJECT + "DUP; METHOD 1; SET 1; SEND 1 0; HALT;"
            + "LABEL 1; ENTER 0 0; SELF; SEND 1 0");
        Check.same("a 201st frame", 5, deep.run(20000));
        Check.same("frames", 200, deep.many(12));
        Check.same("the word", 10, deep.many(10));
        Check.same("its values", 1, deep.many(11));
        ProtoMachine wrongToo = Check.linked(20, 60, "PUSH 0; KEEP 0;" + OBJECT
            + "DUP; METHOD 1; SET 1; SEND 1 0; HALT; LABEL 1; ENTER 0 0;"
            + "GLOBAL 0; PUSH 1; ADD; DUP; KEEP 0; PUSH 199; EQUAL; UNLESS 2; PUSH 1; SELF; SWAP; SEND 1 1;"
            + "LABEL 2; SELF; SEND 1 0");
        Check.same("7 comes before a 201st frame", 7, wrongToo.run(20000));
        Check.same("frames", 200, wrongToo.many(12));
    }

    private static void framesKeepWhatIsBelow() {
        String call = OBJECT + "DUP; METHOD 1; SET 1; PUSH 50; SWAP; SEND 1 0; HALT; LABEL 1; ENTER 0 0; ";
        Check.ends(call + "POP", 5, 11, 1);
        Check.ends(call + "PUSH 1; ADD", 5, 12, 2);
        Check.ends(call + "PUSH 1; SWAP", 5, 12, 2);
        Check.ends(call + "DUP", 5, 11, 1);
        Check.ends(call + "PUSH 1; SEND 0 1", 5, 12, 2);
    }

    private static void reasonsInOrder() {
        Check.ends("NIL; ADD", 5, 1, 1);
        Check.ends("NIL; PUSH 0; DIV", 3, 2, 2);
        Check.ends("PUSH 0; NIL; REM", 3, 2, 2);
        Check.ends("NIL; DROP 0", 3, 1, 1);
        Check.ends("PUSH 1; SEND 0 1", 5, 1, 1);
        Check.ends("PUSH 1; PUSH 2; SEND 0 1", 2, 2, 2);
        Check.ends(OBJECT + "DUP; ADOPT", 9, 3, 2);
    }

    private static void nothingChangesWithABadEnd() {
        ProtoMachine m = Check.ran(OBJECT + "KEEP 0; GLOBAL 0; PUSH 5; SET 1; GLOBAL 0; GET 1; PRINT; GLOBAL 0; GET 2");
        Check.same("end", 2, m.step());
        Check.same("steps", 10, m.many(9));
        Check.same("steps of sites", 1, m.many(8));
        Check.same("values", 1, m.many(11));
        Check.same("kind of what GET wanted", 2, m.pile(0, 0));
        Check.same("changed", 6, m.object(1, 4));
        Check.same("run changes nothing", 2, m.run(100));
        Check.same("steps still", 10, m.many(9));
        Check.same("it can collect", 0, m.collectMajor());
        Check.same("and make old", 4, m.collectMinor());
        Check.same("end still", 2, m.run(0));
    }
}
