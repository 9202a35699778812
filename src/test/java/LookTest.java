/** Promises 11 to 17: many, pile, local, object, slot, outSize, out. */
public final class LookTest {
    private static final int[] FAR = {Integer.MIN_VALUE, -2, -1, Integer.MAX_VALUE};
    private static final String OBJECT = "NIL; NEW;";

    public static void main(String[] args) {
        many();
        pile();
        local();
        object();
        slot();
        outSize();
        out();
        Check.end("LookTest");
    }

    private static void many() {
        ProtoMachine m = Check.ran(OBJECT + "KEEP 0; GLOBAL 0; PUSH 5; SET 1; GLOBAL 0; GET 1; GLOBAL 0; NEW; HALT");
        int[] due = {7, 0, 2, 0, 0, 0, 0, 0, 1, 11, 10, 2, 1, 11};
        for (int what = 0; what < due.length; what++) {
            Check.same("many(" + what + ")", due[what], m.many(what));
        }
        for (int what : FAR) {
            Check.same("many(" + what + ")", Check.BAD, m.many(what));
        }
        Check.same("many(14)", Check.BAD, m.many(14));
        ProtoMachine unlinked = new ProtoMachine(20, 60);
        Check.lay(unlinked, "NIL; NIL");
        for (int what = 0; what <= 12; what++) {
            Check.same("many(" + what + ") of one not linked", 0, unlinked.many(what));
        }
        Check.same("its words", 2, unlinked.many(13));
        Check.same("many(14) of it", Check.BAD, unlinked.many(14));
        Check.same("many(-1) of it", Check.BAD, unlinked.many(-1));
    }

    private static void value(String of, int kind, int number, int gotKind, int gotNumber) {
        Check.same("kind of " + of, kind, gotKind);
        Check.same("number of " + of, number, gotNumber);
    }

    private static void pile() {
        ProtoMachine m = Check.ran("NIL; PUSH -9; NIL; NEW; METHOD 1; HALT; LABEL 1; NIL");
        value("pile 0", 3, 7, m.pile(0, 0), m.pile(0, 1));
        value("pile 1", 2, 1, m.pile(1, 0), m.pile(1, 1));
        value("pile 2", 1, -9, m.pile(2, 0), m.pile(2, 1));
        value("pile 3", 0, 0, m.pile(3, 0), m.pile(3, 1));
        Check.same("pile 4", Check.BAD, m.pile(4, 0));
        Check.same("pile, what 2", Check.BAD, m.pile(0, 2));
        for (int far : FAR) {
            Check.same("pile " + far, Check.BAD, m.pile(far, 0));
            Check.same("pile, what " + far, Check.BAD, m.pile(0, far));
        }
        ProtoMachine called = Check.ran(OBJECT + "DUP; METHOD 1; SET 1; PUSH 3; SWAP; SEND 1 0; HALT;"
            + "LABEL 1; ENTER 0 0; PUSH 4; HALT");
        value("what lay before the frame", 1, 3, called.pile(1, 0), called.pile(1, 1));
    }

    private static void local() {
        ProtoMachine m = Check.ran("PUSH 6; STORE 0; NIL; NEW; STORE 15; METHOD 1; STORE 7; LABEL 1");
        value("local 0", 1, 6, m.local(0, 0), m.local(0, 1));
        value("local 15", 2, 1, m.local(15, 0), m.local(15, 1));
        value("local 7", 3, 8, m.local(7, 0), m.local(7, 1));
        value("local 8", 0, 0, m.local(8, 0), m.local(8, 1));
        value("self", 0, 0, m.local(16, 0), m.local(16, 1));
        Check.same("local 17", Check.BAD, m.local(17, 0));
        Check.same("local, what 2", Check.BAD, m.local(0, 2));
        Check.same("self, what -1", Check.BAD, m.local(16, -1));
        for (int far : FAR) {
            Check.same("local " + far, Check.BAD, m.local(far, 0));
            Check.same("local, what " + far, Check.BAD, m.local(0, far));
        }
        ProtoMachine called = Check.ran(OBJECT + "DUP; METHOD 1; SET 1; PUSH 3; SEND 1 1; HALT; LABEL 1; ENTER 1 0; HALT");
        value("the value sent", 1, 3, called.local(0, 0), called.local(0, 1));
        value("self of the call", 2, 1, called.local(16, 0), called.local(16, 1));
        Check.same("no second", Check.BAD, called.local(1, 0));
        Check.same("no sixteenth", Check.BAD, called.local(15, 0));
    }

    private static void object() {
        ProtoMachine m = Check.linked(60, 200, OBJECT + "KEEP 0; GLOBAL 0; NEW; DUP; PUSH 5; SET 1; POP; NIL; HALT");
        m.run(8);
        int[] due = {0, 4, 1, 1, 8};
        for (int what = 0; what < due.length; what++) {
            Check.same("object(2, " + what + ")", due[what], m.object(2, what));
        }
        int[] first = {0, 3, 0, 0, 0};
        for (int what = 0; what < first.length; what++) {
            Check.same("object(1, " + what + ")", first[what], m.object(1, what));
        }
        m.run(1);
        m.collectMinor();
        Check.same("old", 1, m.object(1, 0));
        Check.same("freed", 2, m.object(2, 0));
        for (int what = 1; what <= 5; what++) {
            Check.same("freed, what " + what, Check.BAD, m.object(2, what));
        }
        Check.same("no such what", Check.BAD, m.object(1, 5));
        Check.same("never made", Check.BAD, m.object(3, 0));
        Check.same("serial 0", Check.BAD, m.object(0, 0));
        for (int far : FAR) {
            Check.same("object " + far, Check.BAD, m.object(far, 0));
            Check.same("object, what " + far, Check.BAD, m.object(1, far));
            Check.same("freed, what " + far, Check.BAD, m.object(2, far));
        }
    }

    private static void slot() {
        ProtoMachine m = Check.linked(60, 200, OBJECT + "KEEP 0; GLOBAL 0; PUSH -4; SET 63; GLOBAL 0; NIL; SET 0;"
            + "GLOBAL 0; GLOBAL 0; SET 7; GLOBAL 0; METHOD 1; SET 8; LABEL 1; GLOBAL 0; PUSH 9; SET 0; NIL; KEEP 0");
        m.run(15);
        slotIs(m, 0, 63, 1, -4);
        slotIs(m, 1, 0, 0, 0);
        slotIs(m, 2, 7, 2, 1);
        slotIs(m, 3, 8, 3, 16);
        Check.same("a fifth", Check.BAD, m.slot(1, 4, 0));
        Check.same("what 3", Check.BAD, m.slot(1, 0, 3));
        Check.same("no such object", Check.BAD, m.slot(2, 0, 0));
        Check.same("serial 0", Check.BAD, m.slot(0, 0, 0));
        for (int far : FAR) {
            Check.same("slot " + far, Check.BAD, m.slot(1, far, 0));
            Check.same("slot of " + far, Check.BAD, m.slot(far, 0, 0));
            Check.same("slot, what " + far, Check.BAD, m.slot(1, 0, far));
        }
        m.run(4);
        slotIs(m, 1, 0, 1, 9);
        m.run(2);
        m.collectMajor();
        Check.same("of a freed one", Check.BAD, m.slot(1, 0, 0));
    }

    private static void slotIs(ProtoMachine m, int k, int name, int kind, int number) {
        Check.same("name of slot " + k, name, m.slot(1, k, 0));
        value("slot " + k, kind, number, m.slot(1, k, 1), m.slot(1, k, 2));
    }

    private static void outSize() {
        ProtoMachine m = Check.linked(20, 60, "PUSH 0; KEEP 0; LABEL 1; GLOBAL 0; DUP; PRINT; PUSH 1; ADD; KEEP 0; JUMP 1");
        Check.same("none", 0, m.outSize());
        m.run(2 + 7 * 999 + 6);
        Check.same("1000", 1000, m.outSize());
        Check.same("the last that stays", 999, m.out(999, 1));
        m.run(7);
        Check.same("1001", 1001, m.outSize());
        Check.same("it is lost", Check.BAD, m.out(1000, 0));
        Check.same("the first stays", 0, m.out(0, 1));
        m.run(20000);
        Check.holds("many more", m.outSize() > 3000);
        Check.same("999 stays", 999, m.out(999, 1));
        m.restart();
        Check.same("nothing by restart", 0, m.outSize());
    }

    private static void out() {
        ProtoMachine m = Check.ran("NIL; PRINT; PUSH -5; PRINT; NIL; NEW; PRINT; METHOD 1; PRINT; LABEL 1");
        value("out 0", 0, 0, m.out(0, 0), m.out(0, 1));
        value("out 1", 1, -5, m.out(1, 0), m.out(1, 1));
        value("out 2", 2, 1, m.out(2, 0), m.out(2, 1));
        value("out 3", 3, 10, m.out(3, 0), m.out(3, 1));
        Check.same("out 4", Check.BAD, m.out(4, 0));
        Check.same("out, what 2", Check.BAD, m.out(0, 2));
        for (int far : FAR) {
            Check.same("out " + far, Check.BAD, m.out(far, 0));
            Check.same("out, what " + far, Check.BAD, m.out(0, far));
        }
    }
}
