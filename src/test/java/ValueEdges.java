/** Terms: values, objects and chains, a test for each sentence. */
final class ValueEdges {
    private static final int BAD = ProtoMachine.BAD;
    private static final int LEAST = -1073741824;
    private static final int MOST = 1073741823;
    private static final String OBJECT = "NIL; NEW;";

    private ValueEdges() {
    }

    static void all() {
        kindsAndInts();
        falseAndTrue();
        theSame();
        serialsAndParents();
        slots();
        shape();
        size();
        changesShape();
        protos();
        chains();
        found();
    }

    private static void kindsAndInts() {
        Check.of("What it is", "VALUES are NIL (kind 0), INTS from -1073741824 to 1073741823 (1), OBJECTS (2),"
            + " METHODS (3: a place of the code).");
        Check.prints("NIL; PRINT", 0, 0);
        for (int n : new int[] {LEAST, LEAST + 1, -1, 0, 1, MOST - 1, MOST}) {
            Check.prints("PUSH " + n + "; PRINT", 1, n);
        }
        Check.prints(OBJECT + "PRINT", 2, 1);
        Check.prints("LABEL 1; METHOD 1; PRINT", 3, 1);
        for (int n : new int[] {Integer.MIN_VALUE, LEAST - 1, MOST + 1, Integer.MAX_VALUE}) {
            ProtoMachine m = new ProtoMachine(20, 60);
            Check.lay(m, "PUSH " + n);
            Check.same("no int " + n, -10, m.link());
        }
        Check.ends("PUSH " + MOST + "; PUSH 1; ADD", 6, 2, 2);
        Check.ends("PUSH " + LEAST + "; PUSH 1; SUB", 6, 2, 2);
    }

    /** A jump prints 0, no jump prints 1. */
    private static void truth(String value, int due) {
        Check.prints("LABEL 1; " + value + "; UNLESS 2; PUSH 1; PRINT; HALT; LABEL 2; PUSH 0; PRINT", 1, due);
    }

    private static void falseAndTrue() {
        Check.of("Terms", "NIL and the int 0 are FALSE, all others are TRUE.");
        truth("NIL", 0);
        truth("PUSH 0", 0);
        for (int n : new int[] {LEAST, -1, 1, MOST}) {
            truth("PUSH " + n, 1);
        }
        truth("NIL; NEW", 1);
        truth("METHOD 1", 1);
    }

    private static void same(String two, int due) {
        Check.prints("LABEL 1; LABEL 2; " + two + "; EQUAL; PRINT", 1, due);
    }

    private static void theSame() {
        Check.of("Terms", "Two are the SAME, when they are of one kind, and the same int, the very object,"
            + " or the same place.");
        same("NIL; NIL", 1);
        same("PUSH 5; PUSH 5", 1);
        same("PUSH 5; PUSH 4", 0);
        same("PUSH 5; PUSH 6", 0);
        same("PUSH 5; PUSH -5", 0);
        same("PUSH " + LEAST + "; PUSH " + MOST, 0);
        same("NIL; NEW; DUP", 1);
        same("NIL; NEW; NIL; NEW", 0);
        same("NIL; NEW; DUP; CLONE", 0);
        same("METHOD 1; METHOD 1", 1);
        same("METHOD 1; METHOD 2", 0);
        String[] kinds = {"NIL", "PUSH 0", "PUSH 1", "NIL; NEW", "METHOD 1"};
        for (String one : kinds) {
            for (String other : kinds) {
                same(one + "; " + other, one.equals(other) && !one.endsWith("NEW") ? 1 : 0);
            }
        }
    }

    private static void serialsAndParents() {
        Check.of("Terms", "AN OBJECT has a SERIAL (1, 2, .. as they are made; copies, too),"
            + " a PARENT (an object, or NIL),");
        ProtoMachine m = Check.linked(60, 200, OBJECT + "DUP; NEW; DUP; CLONE; NIL; NEW");
        m.run(2);
        Check.same("the first", 1, m.pile(0, 1));
        m.run(2);
        Check.same("the second", 2, m.pile(0, 1));
        m.run(2);
        Check.same("a copy", 3, m.pile(0, 1));
        Check.same("its kind", 2, m.pile(0, 0));
        m.run(2);
        Check.same("the fourth", 4, m.pile(0, 1));
        Check.same("none before the first", BAD, m.object(0, 0));
        Check.same("none behind the last", BAD, m.object(5, 0));
        int[] parents = {0, 1, 1, 0};
        for (int serial = 1; serial <= 4; serial++) {
            Check.same("parent of " + serial, parents[serial - 1], m.object(serial, 3));
        }
        ProtoMachine freed = Check.linked(60, 200, OBJECT + "POP; NIL; NEW");
        freed.run(3);
        freed.collectMajor();
        freed.run(2);
        Check.same("a freed one's serial is not used again", 2, freed.pile(0, 1));
        ProtoMachine refused = Check.linked(8, 16, Check.repeat(OBJECT, 7));
        Check.same("a refused one", 8, refused.run(100));
        Check.same("has no serial", BAD, refused.object(7, 0));
        Check.same("the last that was made", 0, refused.object(6, 0));
    }

    private static void slots() {
        Check.of("Terms", "and SLOTS, 40 at most: a NAME 0 .. 63 and a value each,"
            + " in the order in which their names came to it.");
        for (int count = 38; count <= 40; count++) {
            ProtoMachine m = Check.ran(Check.grown(count) + "GLOBAL 0; PUSH 9; SET 63");
            Check.same("one more than " + count, count < 40 ? 1 : 10, m.step());
            Check.same("slots", Math.min(40, count + 1), m.object(1, 2));
        }
        for (int name : new int[] {-1, 0, 1, 62, 63, 64}) {
            ProtoMachine m = new ProtoMachine(20, 60);
            Check.lay(m, OBJECT + "DUP; PUSH 9; SET " + name + "; GET " + name);
            boolean is = name >= 0 && name <= 63;
            Check.same("name " + name, is ? 0 : -14, m.link());
            Check.same("run with it", is ? 1 : BAD, m.run(100));
            Check.same("as a slot", is ? name : BAD, m.slot(1, 0, 0));
            Check.same("its value", is ? 9 : BAD, m.pile(0, 1));
        }
        ProtoMachine m = Check.ran(OBJECT
            + "KEEP 0; GLOBAL 0; PUSH 1; SET 9; GLOBAL 0; PUSH 2; SET 3; GLOBAL 0; PUSH 3; SET 6;"
            + "GLOBAL 0; PUSH 4; SET 3; GLOBAL 0; DROP 9; GLOBAL 0; PUSH 5; SET 9");
        int[][] due = {{3, 4}, {6, 3}, {9, 5}};
        for (int k = 0; k < 3; k++) {
            Check.same("name " + k, due[k][0], m.slot(1, k, 0));
            Check.same("value " + k, due[k][1], m.slot(1, k, 2));
        }
    }

    private static void shape() {
        Check.of("Terms", "Its SHAPE is its names in that order, and its parent (the very one).");
        String oneTwo = "NEW; DUP; NIL; SET 11; DUP; NIL; SET 12";
        Rounds.hits("the same names and parent", 1, "GLOBAL 0; " + oneTwo, "GLOBAL 0; " + oneTwo);
        Rounds.hits("other values", 1, "GLOBAL 0; " + oneTwo, "GLOBAL 0; NEW; DUP; PUSH 1; SET 11; DUP; PUSH 2; SET 12");
        Rounds.hits("another order", 0, "GLOBAL 0; " + oneTwo, "GLOBAL 0; NEW; DUP; NIL; SET 12; DUP; NIL; SET 11");
        Rounds.hits("a name less", 0, "GLOBAL 0; " + oneTwo, "GLOBAL 0; NEW; DUP; NIL; SET 11");
        Rounds.hits("a name more", 0, "GLOBAL 0; " + oneTwo, "GLOBAL 0; " + oneTwo + "; DUP; NIL; SET 13");
        Rounds.hits("another first name", 0, "GLOBAL 0; " + oneTwo, "GLOBAL 0; NEW; DUP; NIL; SET 10; DUP; NIL; SET 12");
        Rounds.hits("another last name", 0, "GLOBAL 0; " + oneTwo, "GLOBAL 0; NEW; DUP; NIL; SET 11; DUP; NIL; SET 13");
        Rounds.hits("a parent that only looks the same", 0, "GLOBAL 0; " + oneTwo, "GLOBAL 3; " + oneTwo);
        Rounds.hits("no parent", 0, "GLOBAL 0; " + oneTwo + "; DUP; NIL; SET 1",
            "NIL; " + oneTwo + "; DUP; NIL; SET 1");
        Rounds.hits("no parent twice", 1, "NIL; " + oneTwo + "; DUP; NIL; SET 1", "NIL; " + oneTwo + "; DUP; NIL; SET 1");
    }

    private static void size() {
        Check.of("Terms", "Its SIZE is 3 and one for each slot.");
        for (int slots : new int[] {0, 1, 2, 39, 40}) {
            ProtoMachine m = Check.ran(Check.grown(slots));
            Check.same("with " + slots, 3 + slots, m.object(1, 1));
            Check.same("cells with " + slots, 3 + slots, m.many(0));
            Check.same("old cells with " + slots, 3 + slots, m.collectMinor());
        }
        ProtoMachine m = Check.ran(Check.grown(2) + "GLOBAL 0; PUSH 8; SET 1");
        Check.same("a value anew adds none", 5, m.object(1, 1));
        ProtoMachine copy = Check.ran(Check.grown(2) + "GLOBAL 0; CLONE");
        Check.same("a copy", 5, copy.object(2, 1));
        Check.same("both", 10, copy.many(0));
    }

    private static void changesShape() {
        Check.of("Terms", "It CHANGES SHAPE when a slot comes or goes, or its parent becomes another value.");
        String two = OBJECT + "KEEP 0;" + OBJECT + "KEEP 1; GLOBAL 1; PUSH 1; SET 5;";
        changed("a slot comes", two, 9);
        changed("it has another value", two + "GLOBAL 1; PUSH 2; SET 5", 9);
        changed("it has the same value", two + "GLOBAL 1; PUSH 1; SET 5", 9);
        changed("another slot comes", two + "GLOBAL 1; PUSH 1; SET 6", 12);
        changed("a slot goes", two + "GLOBAL 1; DROP 5", 11);
        changed("a parent instead of NIL", two + "GLOBAL 1; GLOBAL 0; ADOPT", 12);
        changed("NIL instead of NIL", two + "GLOBAL 1; NIL; ADOPT", 9);
        changed("the same parent", two + "GLOBAL 1; GLOBAL 0; ADOPT; GLOBAL 1; GLOBAL 0; ADOPT", 12);
        changed("NIL instead of a parent", two + "GLOBAL 1; GLOBAL 0; ADOPT; GLOBAL 1; NIL; ADOPT", 15);
        changed("another parent", two + "GLOBAL 1; GLOBAL 0; ADOPT; GLOBAL 1; NIL; NEW; ADOPT", 16);
        changed("its parent's slot", two + "GLOBAL 1; GLOBAL 0; ADOPT; GLOBAL 0; NIL; SET 5", 12);
        changed("it becomes a parent", two + "GLOBAL 0; GLOBAL 1; ADOPT", 9);
        changed("it becomes a value", two + "GLOBAL 0; GLOBAL 1; SET 1", 9);
        changed("it is copied", two + "GLOBAL 1; CLONE", 9);
    }

    /** Tells the step at which object 2 changed last. */
    private static void changed(String of, String code, int due) {
        ProtoMachine m = Check.ran(code);
        Check.same("end of " + of, 1, m.step());
        Check.same(of, due, m.object(2, 4));
    }

    private static void protos() {
        Check.of("Terms", "PROTO of a kind 0, 1, 3 is an object, or NIL (at first).");
        String[] values = {"NIL", "PUSH 4", "", "METHOD 1"};
        for (int kind : new int[] {0, 1, 3}) {
            Check.ends("LABEL 1; " + values[kind] + "; GET 0", 2, 2, 1);
            String code = "LABEL 1; " + Check.grown(1) + "GLOBAL 0; PROTO " + kind + ";";
            for (int other : new int[] {0, 1, 3}) {
                Check.prints(code + values[other] + "; HAS 0; PRINT", 1, other == kind ? 1 : 0);
            }
            Check.prints(code + "NIL; PROTO " + kind + "; " + values[kind] + "; HAS 0; PRINT", 1, 0);
        }
    }

    private static void chains() {
        Check.of("Terms", "THE CHAIN of a value: an object, its parent, that one's parent, and so on, up to NIL;"
            + " of a value that is none: PROTO of its kind, and so on from there.");
        for (int objects : new int[] {1, 2, 3, 900}) {
            // Each object is made with the one before it as its parent, and the first one gets a slot.
            String first = "GLOBAL 0; LABEL 1; DUP; PARENT; DUP; UNLESS 2; SWAP; POP; JUMP 1; LABEL 2; POP; PUSH 8; SET 5;";
            ProtoMachine m = Check.linked(200, 4000, Deep.parents(objects, first + "GLOBAL 0; GET 5; GLOBAL 0; GET 6"));
            m.run(20000);
            Check.same("what is beyond a chain of " + objects, 2, m.step());
            Check.same("the last one of " + objects, 8, m.pile(1, 1));
        }
        String chain = Check.grown(1) + "GLOBAL 0; NEW; NEW; KEEP 1;";
        Check.prints(chain + "GLOBAL 1; GET 0; PRINT", 1, 0);
        Check.prints(chain + "GLOBAL 1; PROTO 1; PUSH 5; GET 0; PRINT", 1, 0);
        Check.prints(chain + "GLOBAL 1; PROTO 0; NIL; HAS 0; PRINT", 1, 1);
        Check.prints(chain + "GLOBAL 1; PROTO 3; LABEL 1; METHOD 1; HAS 0; PRINT", 1, 1);
        Check.prints("NIL; NEW; DUP; NIL; SET 5; PROTO 0; NIL; NEW; HAS 5; PRINT", 1, 0);
        Check.ends("NIL; NEW; DUP; NIL; SET 5; PROTO 0; NIL; NEW; GET 5", 2, 8, 1);
    }

    private static void found() {
        Check.of("Terms", "A name is FOUND in the first one of the chain that has a slot of that name.");
        String chain = OBJECT + "DUP; PUSH 1; SET 5; DUP; PUSH 2; SET 6; DUP; PUSH 3; SET 7;"
            + "NEW; DUP; PUSH 4; SET 6; DUP; PUSH 5; SET 7; NEW; DUP; NIL; SET 7;";
        Check.prints(chain + "GET 5; PRINT", 1, 1);
        Check.prints(chain + "GET 6; PRINT", 1, 4);
        Check.prints(chain + "GET 7; PRINT", 0, 0);
        Check.prints(chain + "SEND 5 0; PRINT", 1, 1);
        Check.prints(chain + "SEND 6 0; PRINT", 1, 4);
        Check.prints(chain + "DUP; DROP 7; GET 7; PRINT", 1, 5);
        Check.prints(chain + "HAS 5; PRINT", 1, 1);
        Check.prints(chain + "HAS 4; PRINT", 1, 0);
        Check.prints(chain + "HAS 8; PRINT", 1, 0);
    }
}
