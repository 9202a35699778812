/** What it is: the document's opening, a test for each clause. */
final class OpeningEdges {
    private static final int BAD = ProtoMachine.BAD;
    private static final String PLACE = "What it is";
    private static final String OBJECT = "NIL; NEW;";

    private OpeningEdges() {
    }

    static void all() {
        noClasses();
        laidOneByOne();
        labelsAreLinked();
        carriedOutOnAPile();
        slotsWithAParent();
        messagesLookAlongParents();
        placesRememberTheLastShape();
        beginInASmallRoom();
        theHeldMoves();
        theLostIsFreed();
        usedForSoManyCalls();
    }

    private static void noClasses() {
        Check.of(PLACE, "A machine for programs with objects that have no classes:");
        ProtoMachine m = Check.ran(OBJECT + "KEEP 0; GLOBAL 0; NEW; KEEP 1; GLOBAL 0; NEW; KEEP 2;"
            + "GLOBAL 1; PUSH 7; SET 5; GLOBAL 2; HAS 5; GLOBAL 0; HAS 5; GLOBAL 1; HAS 5");
        Check.same("the one that it came to has the slot", 1, m.pile(0, 1));
        Check.same("its parent has not", 0, m.pile(1, 1));
        Check.same("nor has another of that parent", 0, m.pile(2, 1));
    }

    private static void laidOneByOne() {
        Check.of(PLACE, "words are laid one by one,");
        ProtoMachine m = new ProtoMachine(20, 60);
        for (int word = 1; word <= 5; word++) {
            Check.same("word " + word, word, m.asm(1, 10 * word, 0));
            Check.same("words", word, m.many(13));
        }
        Check.same("link", 0, m.link());
        for (int word = 1; word <= 5; word++) {
            Check.same("step " + word, 0, m.step());
            Check.same("in their order", 10 * word, m.pile(0, 1));
        }
    }

    private static void labelsAreLinked() {
        Check.of(PLACE, "labels are linked,");
        Check.prints("JUMP 0; PUSH 1; PRINT; LABEL 0; PUSH 2; PRINT", 1, 2);
        Check.prints("METHOD 199; PRINT; LABEL 199", 3, 3);
        ProtoMachine m = new ProtoMachine(20, 60);
        Check.lay(m, "JUMP 7");
        Check.same("without the label", -10, m.link());
        Check.same("nothing runs", BAD, m.step());
        Check.lay(m, "LABEL 7");
        Check.same("not linked by the word alone", BAD, m.step());
        Check.same("with the label", 0, m.link());
        Check.same("it runs", 1, m.run(10));
    }

    private static void carriedOutOnAPile() {
        Check.of(PLACE, "and instructions are carried out on a pile;");
        ProtoMachine m = Check.linked(20, 60, "PUSH 7; PUSH 4; SUB");
        int[] heights = {1, 2, 1};
        int[] uppermost = {7, 4, 3};
        for (int i = 0; i < heights.length; i++) {
            Check.same("step " + i, 0, m.step());
            Check.same("values", heights[i], m.many(11));
            Check.same("the uppermost", uppermost[i], m.pile(0, 1));
        }
    }

    private static void slotsWithAParent() {
        Check.of(PLACE, "objects are slots with a parent,");
        ProtoMachine m = Check.ran(OBJECT + "NEW; DUP; PUSH 7; SET 5; DUP; NIL; SET 6");
        Check.same("slots", 2, m.object(2, 2));
        Check.same("the first name", 5, m.slot(2, 0, 0));
        Check.same("its value", 7, m.slot(2, 0, 2));
        Check.same("the second name", 6, m.slot(2, 1, 0));
        Check.same("no third", BAD, m.slot(2, 2, 0));
        Check.same("its parent", 1, m.object(2, 3));
        Check.same("which has none", 0, m.object(1, 3));
    }

    private static void messagesLookAlongParents() {
        Check.of(PLACE, "messages look along parents,");
        String chain = OBJECT + "DUP; METHOD 1; SET 5; NEW; NEW; KEEP 0;";
        String method = "; PRINT; HALT; LABEL 1; ENTER 0 0; SELF; RETURN";
        Check.prints(chain + "GLOBAL 0; SEND 5 0" + method, 2, 3);
        Check.prints(chain + "GLOBAL 0; PARENT; SEND 5 0" + method, 2, 2);
        Check.prints(chain + "GLOBAL 0; PARENT; PARENT; SEND 5 0" + method, 2, 1);
        Check.ends(OBJECT + "DUP; NEW; PUSH 1; SET 5; SEND 5 0", 2, 6, 1);
    }

    private static void placesRememberTheLastShape() {
        Check.of(PLACE, "each place remembers what shape it met last;");
        Rounds.hits("one shape", 2, "GLOBAL 1", "GLOBAL 2", "GLOBAL 1");
        Rounds.hits("two shapes in turn", 0, "GLOBAL 1", "GLOBAL 0", "GLOBAL 1", "GLOBAL 0");
        Rounds.hits("the last one of two", 1, "GLOBAL 1", "GLOBAL 0", "GLOBAL 0");
        ProtoMachine m = Check.ran(Rounds.FAMILY + "GLOBAL 1; GET 1; GLOBAL 1; GET 1");
        Check.same("each place for itself", 0, m.many(7));
        Check.same("two places", 2, m.many(8));
    }

    private static void beginInASmallRoom() {
        Check.of(PLACE, "objects begin in a small room,");
        ProtoMachine m = Check.ran(OBJECT + "DUP; NEW; DUP; CLONE");
        for (int serial = 1; serial <= 3; serial++) {
            Check.same("object " + serial, 0, m.object(serial, 0));
        }
        Check.rooms("of three", m, 9, 0, 3, 0);
    }

    private static void theHeldMoves() {
        Check.of(PLACE, "and what is held moves to a great one,");
        ProtoMachine m = Check.linked(8, 60, OBJECT + OBJECT + OBJECT);
        m.run(4);
        Check.rooms("of two", m, 6, 0, 2, 0, 0, 0, 0);
        m.run(2);
        Check.rooms("of three", m, 3, 6, 1, 2, 0, 1, 0);
        ProtoMachine lost = Check.linked(8, 60, OBJECT + "POP;" + OBJECT + OBJECT);
        lost.run(7);
        Check.rooms("of three, one of them not held", lost, 3, 3, 1, 1, 1, 1, 0);
    }

    private static void theLostIsFreed() {
        Check.of(PLACE, "in which what can not be come to any more is freed.");
        ProtoMachine m = Check.linked(20, 60, OBJECT + OBJECT + "POP");
        m.run(4);
        Check.same("both are old", 6, m.collectMinor());
        Check.same("none is lost", 0, m.collectMajor());
        m.run(1);
        Check.same("a MINOR frees no old one", 0, m.collectMinor());
        Check.same("still there", 1, m.object(2, 0));
        Check.same("a MAJOR does", 3, m.collectMajor());
        Check.same("the lost", 2, m.object(2, 0));
        Check.same("the held", 1, m.object(1, 0));
    }

    private static void usedForSoManyCalls() {
        Check.of(PLACE, "An object is used for at most 512 calls after it has been made;"
            + " what later calls answer is free.");
        ProtoMachine m = new ProtoMachine(20, 60);
        for (int call = 1; call <= 509; call++) {
            Check.same("call " + call, call, m.asm(1, call, 0));
        }
        Check.same("call 510", 0, m.link());
        Check.same("call 511", 1, m.run(20000));
        Check.same("call 512", 509, m.pile(0, 1));
        ProtoMachine longest = Check.linked(8, 16, "LABEL 1;" + OBJECT + "POP; JUMP 1");
        for (int call = 7; call <= 511; call++) {
            Check.same("the most steps, call " + call, 0, longest.run(20000));
        }
        Check.same("call 512: all of them count", 505 * 20000, longest.many(9));
    }
}
