/** Promises 1 to 5: a new object, asm, wipe, link, fault. */
public final class CodeTest {
    private static final int LEAST = -1073741824;
    private static final int MOST = 1073741823;

    public static void main(String[] args) {
        newObject();
        asm();
        asmEndsWhatRan();
        wipe();
        full();
        link();
        operands();
        labels();
        leastFaultOfFirstWord();
        fault();
        Check.end("CodeTest");
    }

    private static void newObject() {
        ProtoMachine m = new ProtoMachine(20, 60);
        for (int what = 0; what <= 13; what++) {
            Check.same("many(" + what + ") of a new one", 0, m.many(what));
        }
        Check.same("fault before any link", 0, m.fault());
        notLinked("a new one", m);
    }

    private static void notLinked(String of, ProtoMachine m) {
        Check.same("step of " + of, Check.BAD, m.step());
        Check.same("run(0) of " + of, Check.BAD, m.run(0));
        Check.same("restart of " + of, Check.BAD, m.restart());
        Check.same("collectMinor of " + of, Check.BAD, m.collectMinor());
        Check.same("collectMajor of " + of, Check.BAD, m.collectMajor());
        Check.same("pile of " + of, Check.BAD, m.pile(0, 0));
        Check.same("local of " + of, Check.BAD, m.local(0, 0));
        Check.same("self of " + of, Check.BAD, m.local(16, 0));
        Check.same("object of " + of, Check.BAD, m.object(1, 0));
        Check.same("slot of " + of, Check.BAD, m.slot(1, 0, 0));
        Check.same("outSize of " + of, 0, m.outSize());
        Check.same("out of " + of, Check.BAD, m.out(0, 0));
        for (int what = 0; what <= 12; what++) {
            Check.same("many(" + what + ") of " + of, 0, m.many(what));
        }
    }

    private static void asm() {
        ProtoMachine m = new ProtoMachine(20, 60);
        Check.same("first word", 1, m.asm(1, 5, 0));
        Check.same("second word, whatever it is", 2, m.asm(-7, Integer.MAX_VALUE, Integer.MIN_VALUE));
        Check.same("words", 2, m.many(13));
        Check.same("not linked", Check.BAD, m.step());
    }

    private static void asmEndsWhatRan() {
        String code = "NIL; NEW; KEEP 0; GLOBAL 0; PUSH 7; DUP; PRINT; SET 3; GLOBAL 0; GET 3; PUSH 9";
        ProtoMachine m = Check.linked(20, 60, code);
        m.run(11);
        Check.same("values before asm", 2, m.many(11));
        Check.same("asm when linked", 12, m.asm(32, 0, 0));
        notLinked("one with a word more", m);
        Check.same("words stay", 12, m.many(13));
        Check.same("link again", 0, m.link());
        Check.same("steps after link", 0, m.many(9));
        Check.same("objects after link", Check.BAD, m.object(1, 0));
        Check.same("OUT after link", 0, m.outSize());
        Check.same("globals after link", 1, m.run(20000));
        Check.same("the new word prints, too", 2, m.outSize());
        Check.same("what it prints", 9, m.out(1, 1));
    }

    private static void wipe() {
        ProtoMachine m = new ProtoMachine(20, 60);
        Check.same("wipe of nothing", 0, m.wipe());
        Check.lay(m, "PUSH 1; PRINT; NIL");
        Check.same("link", 0, m.link());
        Check.same("run", 1, m.run(10));
        Check.same("wipe", 3, m.wipe());
        Check.same("words after wipe", 0, m.many(13));
        notLinked("a wiped one", m);
        Check.same("link of no code", 0, m.link());
        Check.same("no code halts", 1, m.step());
        Check.same("behind the last word", 0, m.many(10));
        Check.same("a halt is a step", 1, m.many(9));
        Check.same("wipe of no code", 0, m.wipe());
        Check.same("not linked by it", Check.BAD, m.step());
        Check.same("asm after wipe", 1, m.asm(2, 0, 0));
        Check.same("link after wipe", 0, m.link());
        Check.same("sites remember nothing", 0, m.many(8));
    }

    private static void full() {
        ProtoMachine m = new ProtoMachine(20, 60);
        for (int i = 1; i <= 2000; i++) {
            Check.same("word " + i, i, m.asm(33, i == 2000 ? 1 : 0, i == 1999 ? 1 : 0));
        }
        Check.same("a 2001st", ProtoMachine.FULL, m.asm(0, 0, 0));
        Check.same("words", 2000, m.many(13));
        Check.same("wipe of a full one", 2000, m.wipe());
        Check.same("room again", 1, m.asm(0, 0, 0));
    }

    private static void link() {
        ProtoMachine m = Check.linked(20, 60, "PUSH 1; PUSH 2; HALT");
        Check.same("at the first word", 0, m.many(10));
        Check.same("one frame", 1, m.many(12));
        Check.same("16 locals", 0, m.local(15, 0));
        m.run(2);
        Check.same("link when it runs", 0, m.link());
        Check.same("begins anew", 0, m.many(11));
        Check.same("at the first word again", 0, m.many(10));
        Check.same("runs on", 1, m.run(20000));
        Check.same("link when it ended", 0, m.link());
        Check.same("is running", 0, m.run(0));
    }

    private static void faultOf(String of, int due, int op, int a, int b) {
        ProtoMachine m = new ProtoMachine(20, 60);
        m.asm(33, 0, 0);
        m.asm(33, 199, 0);
        m.asm(op, a, b);
        Check.same("link of " + of + " " + a + " " + b, due == 0 ? 0 : -12, m.link());
        Check.same("fault of " + of + " " + a + " " + b, due, m.fault());
        Check.same("step of " + of + " " + a + " " + b, due == 0 ? 0 : Check.BAD, Math.min(0, m.step()));
    }

    private static void range(String name, int least, int most) {
        int op = Check.operation(name);
        faultOf(name, 0, op, least, 0);
        faultOf(name, 0, op, most, 0);
        faultOf(name, 2, op, least - 1, 0);
        faultOf(name, 2, op, most + 1, 0);
        faultOf(name, 2, op, Integer.MIN_VALUE, 0);
        faultOf(name, 2, op, Integer.MAX_VALUE, 0);
        if (op != 29 && op != 34) {
            faultOf(name, 2, op, least, 1);
            faultOf(name, 2, op, most, -1);
        }
    }

    private static void operands() {
        for (int op : new int[] {-1, 35, 36, Integer.MIN_VALUE, Integer.MAX_VALUE}) {
            faultOf("no operation " + op, 1, op, 0, 0);
            faultOf("no operation " + op, 1, op, -1, -1);
        }
        String bare = "HALT NIL POP DUP SWAP ADD SUB MUL DIV REM LESS EQUAL NEW CLONE PARENT ADOPT SELF RETURN PRINT";
        for (String name : bare.split(" ")) {
            range(name, 0, 0);
        }
        range("PUSH", LEAST, MOST);
        for (String name : "LOCAL STORE GLOBAL KEEP ENTER".split(" ")) {
            range(name, 0, 15);
        }
        for (String name : "GET SET DROP HAS SEND".split(" ")) {
            range(name, 0, 63);
        }
        for (String name : "JUMP UNLESS METHOD".split(" ")) {
            range(name, 0, 199);
        }
        range("PROTO", 0, 1);
        faultOf("PROTO", 0, 27, 3, 0);
        faultOf("PROTO", 2, 27, 4, 0);
        faultOf("PROTO", 2, 27, 3, 1);
        faultOf("SEND", 0, 29, 63, 8);
        faultOf("SEND", 2, 29, 0, 9);
        faultOf("SEND", 2, 29, 0, -1);
        faultOf("SEND", 2, 29, 64, 8);
        faultOf("ENTER", 0, 34, 0, 15);
        faultOf("ENTER", 0, 34, 7, 8);
        faultOf("ENTER", 2, 34, 8, 8);
        faultOf("ENTER", 2, 34, 15, 1);
        faultOf("ENTER", 2, 34, 0, 16);
        faultOf("ENTER", 2, 34, 0, -1);
        faultOf("ENTER", 2, 34, Integer.MAX_VALUE, Integer.MAX_VALUE);
        faultOf("LABEL", 0, 33, 1, 0);
        faultOf("LABEL", 2, 33, -1, 0);
        faultOf("LABEL", 2, 33, 200, 0);
        faultOf("LABEL", 2, 33, 1, 1);
    }

    private static void codeFault(String code, int word, int fault) {
        ProtoMachine m = new ProtoMachine(20, 60);
        Check.lay(m, code);
        Check.same("link of " + code, fault == 0 ? 0 : -10 - word, m.link());
        Check.same("fault of " + code, fault, m.fault());
    }

    private static void labels() {
        codeFault("LABEL 5; NIL; LABEL 5", 2, 3);
        codeFault("LABEL 5; LABEL 5; LABEL 5", 1, 3);
        codeFault("LABEL 0; LABEL 199; LABEL 5", 0, 0);
        codeFault("JUMP 5", 0, 4);
        codeFault("NIL; UNLESS 5; LABEL 6", 1, 4);
        codeFault("METHOD 5; LABEL 4", 0, 4);
        codeFault("JUMP 5; NIL; LABEL 5", 0, 0);
        codeFault("JUMP 5; NIL; LABEL 5 1", 0, 4);
        codeFault("LABEL 5 1; LABEL 5; JUMP 5", 0, 2);
        codeFault("JUMP 5; LABEL 5; LABEL 5", 2, 3);
        codeFault("JUMP 5; LABEL 5 1; LABEL 5", 1, 2);
        Check.ends("JUMP 3; NIL; NIL; LABEL 3", 1, 4, 0);
        Check.prints("METHOD 9; PRINT; HALT; LABEL 9", 3, 4);
    }

    private static void leastFaultOfFirstWord() {
        codeFault("NIL; PUSH 1 1; LABEL 1; LABEL 1; JUMP 9", 1, 2);
        codeFault("NIL; JUMP 9; LABEL 1; LABEL 1; NIL 1", 1, 4);
        codeFault("LABEL 1; LABEL 1 2", 1, 2);
        codeFault("JUMP 200", 0, 2);
        codeFault("JUMP 9 1", 0, 2);
        ProtoMachine m = new ProtoMachine(20, 60);
        m.asm(2, 0, 0);
        m.asm(99, -1, -1);
        Check.same("both 1 and 2", -11, m.link());
        Check.same("the least", 1, m.fault());
    }

    private static void fault() {
        ProtoMachine m = new ProtoMachine(20, 60);
        m.asm(99, 0, 0);
        Check.same("before link", 0, m.fault());
        m.link();
        Check.same("after link", 1, m.fault());
        m.asm(0, 0, 0);
        Check.same("asm leaves it", 1, m.fault());
        m.wipe();
        Check.same("wipe leaves it", 1, m.fault());
        m.link();
        Check.same("a link without fault", 0, m.fault());
        m.run(5);
        m.restart();
        Check.same("restart leaves it", 0, m.fault());
    }
}
