/** Promises 9 and 10 and the rooms: collectMinor, collectMajor, MINOR and MAJOR within steps. */
public final class RoomTest {
    private static final String OBJECT = "NIL; NEW;";

    public static void main(String[] args) {
        collectMinor();
        collectMajor();
        oldOnesHold();
        everyRootHolds();
        whatIsPrintedIsNotHeld();
        minorWithMajor();
        minorWithoutRoom();
        makingInAFullNursery();
        greaterThanTheNursery();
        slotOfAYoungOne();
        slotOfAnOldOne();
        droppingGivesBack();
        valuesTakenAreHeld();
        serialsGoOn();
        Check.end("RoomTest");
    }

    private static void collectMinor() {
        ProtoMachine m = Check.ran(OBJECT + "DUP; PUSH 1; SET 1;" + OBJECT + "POP");
        Check.rooms("before", m, 7, 0, 2, 0, 0, 0, 0);
        Check.same("collectMinor", 4, m.collectMinor());
        Check.rooms("after MINOR", m, 0, 4, 0, 1, 1, 1, 0);
        Check.same("held is old", 1, m.object(1, 0));
        Check.same("the other is freed", 2, m.object(2, 0));
        Check.same("its size is gone", Check.BAD, m.object(2, 1));
        Check.same("collectMinor of none", 0, m.collectMinor());
        Check.rooms("after another", m, 0, 4, 0, 1, 1, 2, 0);
        Check.same("no step by it", 9, m.many(9));
    }

    private static void collectMajor() {
        ProtoMachine m = Check.ran(OBJECT + "KEEP 0; GLOBAL 0; PUSH 1; SET 1;" + OBJECT + "POP; NIL; NEW");
        Check.same("young ones are freed, too", 3, m.collectMajor());
        Check.rooms("after MAJOR", m, 7, 0, 2, 0, 1, 0, 1);
        Check.same("held stays young", 0, m.object(1, 0));
        ProtoMachine old = Check.linked(60, 200, OBJECT + "DUP; NEW; NIL; HALT");
        old.run(4);
        Check.same("two become old", 6, old.collectMinor());
        Check.same("nothing to free", 0, old.collectMajor());
        ProtoMachine cycle = Check.linked(60, 200, OBJECT
            + "DUP; NEW; SWAP; DUP; PUSH 1; SET 2; POP; DUP; DUP; SET 1; POP; HALT");
        cycle.run(8);
        Check.same("they become old", 7, cycle.collectMinor());
        cycle.run(20);
        Check.same("a cycle is freed", 8, cycle.collectMajor());
        Check.rooms("after the cycle", cycle, 0, 0, 0, 0, 2, 1, 1);
        Check.same("parent freed", 2, cycle.object(1, 0));
    }

    private static void oldOnesHold() {
        ProtoMachine m = Check.linked(60, 200, OBJECT + "NIL; NEW; DUP; NIL; SET 1; KEEP 0;"
            + "POP; GLOBAL 0; NIL; NEW; SET 1; NIL; KEEP 0; HALT");
        m.run(8);
        Check.same("one of 3 cells and one of 4", 7, m.collectMinor());
        m.run(20);
        Check.rooms("before MINOR", m, 3, 7, 1, 2, 0, 1, 0);
        Check.same("an old one that is lost still holds", 3, m.collectMinor());
        Check.rooms("after MINOR", m, 0, 10, 0, 3, 0, 2, 0);
        Check.same("MAJOR frees all", 10, m.collectMajor());
        Check.rooms("after MAJOR", m, 0, 0, 0, 0, 3, 2, 1);
        ProtoMachine parent = Check.linked(60, 200, OBJECT + "KEEP 0; GLOBAL 0; NIL; NEW; ADOPT; NIL; KEEP 0; HALT");
        parent.run(3);
        parent.collectMinor();
        parent.run(20);
        Check.same("a parent is held by an old one", 3, parent.collectMinor());
    }

    private static void everyRootHolds() {
        String[] holding = {
            OBJECT,
            OBJECT + "KEEP 15",
            OBJECT + "STORE 15",
            OBJECT + "PROTO 0",
            OBJECT + "PROTO 1",
            OBJECT + "PROTO 3",
            OBJECT + "NEW",
            OBJECT + "KEEP 0;" + OBJECT + "DUP; GLOBAL 0; SET 5; NIL; KEEP 0",
            OBJECT + "PUSH 3; NIL",
        };
        for (String code : holding) {
            ProtoMachine m = Check.ran(code);
            Check.same("MAJOR of " + code, 0, m.collectMajor());
            m.collectMinor();
            Check.same("where 1 is by " + code, 1, m.object(1, 0));
        }
        String call = OBJECT + "DUP; METHOD 1; SET 1; NIL; NEW; SEND 1 1; HALT; LABEL 1; ENTER 1 2; ";
        ProtoMachine m = Check.ran(call + "NIL; NEW; STORE 2; NIL; NEW; POP; HALT");
        Check.same("self, a value sent and a local are held", 3, m.collectMajor());
        Check.same("objects freed", 1, m.many(4));
        Check.same("the three", 3, m.many(2));
        ProtoMachine over = Check.ran(call + "NIL; NEW; STORE 2; NIL; RETURN");
        Check.same("a frame that is over holds nothing", 10, over.collectMajor());
        ProtoMachine lower = Check.ran(OBJECT + "STORE 4;" + call + "HALT");
        Check.same("a frame below holds", 0, lower.collectMajor());
    }

    private static void whatIsPrintedIsNotHeld() {
        ProtoMachine m = Check.ran(OBJECT + "PRINT");
        Check.same("it is freed", 3, m.collectMajor());
        Check.same("OUT has its kind", 2, m.out(0, 0));
        Check.same("OUT has its serial", 1, m.out(0, 1));
        ProtoMachine again = Check.linked(20, 60, OBJECT + "PRINT; NIL; NEW; PRINT");
        again.run(3);
        again.collectMajor();
        again.run(10);
        Check.same("a later one has the next serial", 2, again.out(1, 1));
        Check.same("the first stays", 1, again.out(0, 1));
    }

    /** Old ones that are lost fill the great room; MINOR must free them first. */
    private static void minorWithMajor() {
        ProtoMachine m = Check.linked(9, 16, OBJECT + OBJECT + "POP; POP;" + OBJECT + OBJECT + OBJECT + OBJECT + "HALT");
        m.run(4);
        Check.same("two become old", 6, m.collectMinor());
        m.run(2);
        Check.rooms("lost", m, 0, 6, 0, 2, 0, 1, 0);
        m.run(6);
        Check.rooms("three young", m, 9, 6, 3, 2, 0, 1, 0);
        Check.same("a fourth", 0, m.run(2));
        Check.rooms("four", m, 3, 15, 1, 5, 0, 2, 0);
        Check.same("room for one cell only", 3, m.collectMinor());
        Check.rooms("after MAJOR and MINOR", m, 0, 12, 0, 4, 2, 3, 1);
    }

    private static void minorWithoutRoom() {
        ProtoMachine m = Check.linked(12, 16, Check.repeat("NIL; NEW", 10));
        Check.same("no room", 8, m.run(100));
        Check.rooms("no room", m, 12, 12, 4, 4, 0, 1, 1);
        Check.same("word", 17, m.many(10));
        Check.same("values", 9, m.many(11));
        Check.same("collectMinor", ProtoMachine.NO_ROOM, m.collectMinor());
        Check.rooms("after NO_ROOM", m, 12, 12, 4, 4, 0, 1, 2);
        Check.same("a step", 8, m.step());
        Check.rooms("after a step that is none", m, 12, 12, 4, 4, 0, 1, 2);
        Check.same("no serial was used", Check.BAD, m.object(9, 0));
        ProtoMachine partly = Check.linked(12, 16, OBJECT + OBJECT + OBJECT + OBJECT + OBJECT
            + OBJECT + "POP;" + OBJECT + OBJECT + "HALT");
        partly.run(13);
        Check.rooms("before", partly, 6, 12, 2, 4, 0, 1, 0);
        partly.run(2);
        Check.rooms("full", partly, 9, 12, 3, 4, 0, 1, 0);
        Check.same("the lost one is freed, and still there is no room", ProtoMachine.NO_ROOM, partly.collectMinor());
        Check.rooms("but for what room was made", partly, 6, 12, 2, 4, 1, 1, 1);
    }

    private static void makingInAFullNursery() {
        ProtoMachine m = Check.linked(8, 60, OBJECT + OBJECT + OBJECT);
        m.run(5);
        Check.rooms("two", m, 6, 0, 2, 0, 0, 0, 0);
        m.run(1);
        Check.rooms("three", m, 3, 6, 1, 2, 0, 1, 0);
        ProtoMachine exact = Check.linked(9, 60, OBJECT + OBJECT + OBJECT);
        exact.run(6);
        Check.rooms("just enough", exact, 9, 0, 3, 0, 0, 0, 0);
    }

    private static void greaterThanTheNursery() {
        ProtoMachine m = Check.linked(8, 60, Check.grown(6) + "GLOBAL 0; CLONE; NIL; HALT");
        m.run(3 + 18);
        Check.rooms("one of nine cells", m, 0, 9, 0, 1, 0, 1, 0);
        m.run(2);
        Check.rooms("its copy is old from the beginning", m, 0, 18, 0, 2, 0, 2, 0);
        Check.same("old", 1, m.object(2, 0));
        Check.same("never changed", 0, m.object(2, 4));
        ProtoMachine fits = Check.linked(9, 60, Check.grown(6) + "GLOBAL 0; CLONE; NIL; HALT");
        fits.run(3 + 18 + 2);
        Check.rooms("one that fits is young", fits, 9, 9, 1, 1, 0, 1, 0);
        ProtoMachine exact = Check.linked(8, 18, Check.grown(6) + "GLOBAL 0; CLONE; NIL; HALT");
        Check.same("a great room that is just enough", 1, exact.run(100));
        Check.rooms("just enough", exact, 0, 18, 0, 2, 0, 2, 0);
        ProtoMachine lacking = Check.linked(8, 17, Check.grown(6) + "GLOBAL 0; CLONE; NIL; HALT");
        Check.same("one cell is lacking", 8, lacking.run(100));
        Check.rooms("lacking", lacking, 0, 9, 0, 1, 0, 2, 1);
        ProtoMachine lost = Check.linked(8, 20, Check.grown(6) + "GLOBAL 0; CLONE; POP; GLOBAL 0; CLONE; GLOBAL 0; CLONE");
        lost.run(3 + 18 + 5);
        Check.rooms("a lost copy makes room by MAJOR", lost, 0, 18, 0, 2, 1, 3, 1);
        Check.same("no room for a third", 8, lost.run(10));
        Check.rooms("no room", lost, 0, 18, 0, 2, 1, 4, 2);
    }

    private static void slotOfAYoungOne() {
        ProtoMachine m = Check.linked(8, 60, Check.grown(5) + OBJECT
            + "POP; GLOBAL 0; PUSH 1; SET 9; GLOBAL 0; PUSH 2; SET 9");
        m.run(3 + 15);
        Check.rooms("full", m, 8, 0, 1, 0, 0, 0, 0);
        m.run(2);
        Check.rooms("another", m, 3, 8, 1, 1, 0, 1, 0);
        m.run(4);
        Check.rooms("the slot of an old one", m, 3, 9, 1, 1, 0, 1, 0);
        ProtoMachine young = Check.linked(8, 60, Check.grown(6));
        young.run(3 + 18);
        Check.rooms("it became old, and then grew", young, 0, 9, 0, 1, 0, 1, 0);
        Check.same("its step", 21, young.object(1, 4));
        ProtoMachine same = Check.linked(8, 60, Check.grown(5) + "GLOBAL 0; PUSH 77; SET 0");
        same.run(3 + 15 + 3);
        Check.rooms("a slot that is there needs no room", same, 8, 0, 1, 0, 0, 0, 0);
        ProtoMachine tight = Check.linked(16, 16, Check.grown(13) + "GLOBAL 0; PUSH 1; SET 20");
        Check.same("16 cells become old, and there is no more", 8, tight.run(100));
        Check.rooms("full", tight, 0, 16, 0, 1, 0, 1, 1);
        Check.same("slots", 13, tight.object(1, 2));
        Check.same("values", 2, tight.many(11));
    }

    private static void slotOfAnOldOne() {
        String code = Check.grown(6) + OBJECT + "POP;" + OBJECT + "POP; GLOBAL 0; PUSH 1; SET 30; GLOBAL 0; PUSH 1; SET 31;"
            + "GLOBAL 0; PUSH 1; SET 32; GLOBAL 0; PUSH 1; SET 33; GLOBAL 0; PUSH 1; SET 34";
        ProtoMachine m = Check.linked(8, 16, code);
        m.run(3 + 18 + 6);
        m.collectMinor();
        Check.rooms("lost ones are gone", m, 0, 9, 0, 1, 2, 2, 0);
        m.run(15);
        Check.rooms("grown", m, 0, 14, 0, 1, 2, 2, 0);
        ProtoMachine lost = Check.linked(8, 16, Check.grown(6) + OBJECT + "NIL; HALT");
        lost.run(3 + 18 + 2);
        Check.same("a second becomes old", 3, lost.collectMinor());
        Check.rooms("both", lost, 0, 12, 0, 2, 0, 2, 0);
        ProtoMachine room = Check.linked(8, 16, Check.grown(9) + OBJECT + "POP;"
            + "GLOBAL 0; PUSH 1; SET 30; GLOBAL 0; PUSH 1; SET 31; GLOBAL 0; PUSH 1; SET 32; GLOBAL 0; PUSH 1; SET 33;"
            + "GLOBAL 0; PUSH 1; SET 34");
        room.run(3 + 27 + 2);
        Check.same("it becomes old", 3, room.collectMinor());
        room.run(1 + 3);
        Check.rooms("full", room, 0, 16, 0, 2, 0, 2, 0);
        room.run(3);
        Check.rooms("MAJOR frees the lost one", room, 0, 14, 0, 1, 1, 2, 1);
        room.run(6);
        Check.rooms("full again", room, 0, 16, 0, 1, 1, 2, 1);
        Check.same("none left", 8, room.run(3));
        Check.rooms("no room", room, 0, 16, 0, 1, 1, 2, 2);
    }

    private static void droppingGivesBack() {
        ProtoMachine m = Check.linked(8, 60, Check.grown(5) + "GLOBAL 0; DROP 2; GLOBAL 0; PUSH 1; SET 9");
        m.run(3 + 15 + 2);
        Check.rooms("one cell is back", m, 7, 0, 1, 0, 0, 0, 0);
        Check.same("slots", 4, m.object(1, 2));
        Check.same("changed at", 20, m.object(1, 4));
        m.run(3);
        Check.rooms("and taken again", m, 8, 0, 1, 0, 0, 0, 0);
        ProtoMachine old = Check.linked(8, 60, Check.grown(6) + "GLOBAL 0; DROP 2");
        old.run(3 + 18 + 2);
        Check.rooms("of an old one", old, 0, 8, 0, 1, 0, 1, 0);
    }

    private static void valuesTakenAreHeld() {
        ProtoMachine m = Check.linked(8, 60, OBJECT + "NEW; NEW; PARENT; PRINT");
        Check.same("a parent on the pile alone", 1, m.run(100));
        Check.same("its serial", 2, m.out(0, 1));
        Check.same("it was held", 1, m.object(2, 0));
        Check.same("and its parent", 1, m.object(1, 0));
        ProtoMachine set = Check.linked(8, 60, OBJECT + "DUP; PUSH 1; SET 1; DUP; PUSH 1; SET 2; NIL; NEW; SET 3");
        Check.same("value and object of SET", 1, set.run(100));
        Check.rooms("both are held", set, 0, 9, 0, 2, 0, 1, 0);
    }

    private static void serialsGoOn() {
        ProtoMachine m = Check.linked(10, 40, "LABEL 1; NIL; NEW; POP; JUMP 1");
        m.run(20000);
        Check.same("freed long ago", 2, m.object(1, 0));
        Check.same("made", 5000, m.many(4) + m.many(2));
        Check.same("the last one made", 0, m.object(5000, 0));
        Check.same("none after it", Check.BAD, m.object(5001, 0));
    }
}
