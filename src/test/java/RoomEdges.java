/** Terms: ROOM, a test for each sentence. */
final class RoomEdges {
    private static final int NO_ROOM = ProtoMachine.NO_ROOM;
    private static final String OBJECT = "NIL; NEW;";

    private RoomEdges() {
    }

    static void all() {
        youngOldFreed();
        roomsOfSizes();
        roomsOfTheSmallest();
        roots();
        valuesTakenAreRoots();
        makingInTheNursery();
        makingInTheGreatRoom();
        makingWithoutRoom();
        slotOfAYoungOne();
        slotOfAnOldOne();
        slotThatGoes();
        held();
        minorWithMajor();
        minorWithoutRoom();
        minorWithoutRoomInAStep();
        minorMakesOld();
        major();
    }

    private static void youngOldFreed() {
        Check.of("Terms", "ROOM. A made object is YOUNG at first, and OLD later on, until it is FREED.");
        ProtoMachine m = Check.linked(60, 200, OBJECT + "DUP; CLONE; POP; POP; NIL");
        m.run(4);
        Check.same("young", 0, m.object(1, 0));
        Check.same("a copy is young", 0, m.object(2, 0));
        m.collectMajor();
        Check.same("young after a MAJOR", 0, m.object(1, 0));
        m.collectMinor();
        Check.same("old", 1, m.object(1, 0));
        Check.same("the copy is old", 1, m.object(2, 0));
        m.collectMinor();
        Check.same("old after another MINOR", 1, m.object(1, 0));
        m.run(1);
        m.collectMajor();
        Check.same("the copy is freed", 2, m.object(2, 0));
        Check.same("the other is old", 1, m.object(1, 0));
        m.run(1);
        m.collectMinor();
        Check.same("a MINOR frees no old one", 1, m.object(1, 0));
        m.collectMajor();
        Check.same("freed", 2, m.object(1, 0));
        m.collectMajor();
        Check.same("freed once only", 2, m.many(4));
    }

    private static void roomsOfSizes() {
        Check.of("Terms", "THE NURSERY has room for SIZES of young ones (the first number of the constructor),"
            + " THE GREAT ROOM for those of old ones (the second number).");
        for (int nursery = 11; nursery <= 13; nursery++) {
            ProtoMachine m = Check.linked(nursery, 60, Check.repeat(OBJECT, 4));
            m.run(8);
            Check.same("MINORS for 12 cells in " + nursery, nursery < 12 ? 1 : 0, m.many(5));
            Check.same("young cells in " + nursery, nursery < 12 ? 3 : 12, m.many(0));
        }
        for (int great = 17; great <= 19; great++) {
            ProtoMachine m = Check.linked(60, great, Check.repeat(OBJECT, 6));
            m.run(12);
            Check.same("18 cells into " + great, great < 18 ? NO_ROOM : 18, m.collectMinor());
            Check.same("old cells in " + great, great < 18 ? 0 : 18, m.many(1));
        }
        ProtoMachine slots = Check.linked(12, 60, Check.grown(5) + OBJECT + "POP; GLOBAL 0; NIL; SET 9");
        slots.run(18 + 3);
        Check.rooms("slots take room, too", slots, 11, 0, 2, 0, 0, 0, 0);
        slots.run(3);
        Check.rooms("the last cell", slots, 12, 0, 2, 0, 0, 0, 0);
    }

    /** Both rooms hold as many objects as they can, for none is smaller than 3 cells. */
    private static void roomsOfTheSmallest() {
        Check.of("Terms", "THE NURSERY has room for SIZES of young ones (the first number of the constructor),"
            + " THE GREAT ROOM for those of old ones (the second number).");
        for (int[] room : new int[][] {{9, 18}, {8, 16}, {11, 20}, {200, 4000}}) {
            int young = room[0] / 3;
            int old = room[1] / 3;
            String of = "in " + room[0] + ", " + room[1];
            ProtoMachine m = Check.linked(room[0], room[1], Deep.parents(young + old + 1, "NIL"));
            m.run(Deep.stepsOfParents(old));
            m.collectMinor();
            Check.same("to the last " + of, 0, m.run(10 * young));
            Check.same("old ones " + of, old, m.many(3));
            Check.same("young ones " + of, young, m.many(2));
            Check.same("the last one " + of, 0, m.object(young + old, 0));
            Check.same("MAJOR " + of, 0, m.collectMajor());
            Check.same("MINOR " + of, NO_ROOM, m.collectMinor());
            Check.same("one more " + of, 8, m.run(10));
            Check.same("young ones still " + of, young, m.many(2));
            ProtoMachine lost = Check.linked(room[0], room[1], Deep.parents(young + old, "NIL; KEEP 0; NIL"));
            lost.run(Deep.stepsOfParents(old));
            lost.collectMinor();
            lost.run(10 * young + 2);
            Check.same("objects " + of, young + old, lost.many(2) + lost.many(3));
            Check.same("MINOR of lost ones " + of, 0, lost.collectMinor());
            Check.same("young ones that are left " + of, 0, lost.many(2));
            Check.same("MAJOR of lost ones " + of, 3 * old, lost.collectMajor());
            Check.same("freed " + of, young + old, lost.many(4));
        }
    }

    private static void roots() {
        Check.of("Terms", "ROOTS are all values of the pile, of frames (self, locals), globals, PROTOS.");
        String[] holding = {OBJECT, OBJECT + "PUSH 1; NIL", OBJECT + "STORE 0", OBJECT + "STORE 15", OBJECT + "KEEP 0",
            OBJECT + "KEEP 15", OBJECT + "PROTO 0", OBJECT + "PROTO 1", OBJECT + "PROTO 3"};
        for (String code : holding) {
            ProtoMachine m = Check.ran(code);
            Check.same("freed with " + code, 0, m.collectMajor());
            Check.same("held with " + code, 3, m.collectMinor());
        }
        String[] losing = {OBJECT + "POP", OBJECT + "STORE 0; NIL; STORE 0", OBJECT + "KEEP 15; NIL; KEEP 15",
            OBJECT + "PROTO 3; NIL; PROTO 3", OBJECT + "PRINT"};
        for (String code : losing) {
            Check.same("freed with " + code, 3, Check.ran(code).collectMajor());
            Check.same("held with " + code, 0, Check.ran(code).collectMinor());
        }
        // A receiver of 4 cells, a value sent and a local of the call, a local and a value of who called: all are held.
        String call = OBJECT + "STORE 15; NIL; NEW;" + OBJECT + "DUP; METHOD 1; SET 1; NIL; NEW; SEND 1 1; HALT;"
            + "LABEL 1; ENTER 1 14; NIL; NEW; STORE 14;";
        Check.same("freed in a call", 0, Check.ran(call).collectMajor());
        Check.same("held in a call", 16, Check.ran(call).collectMinor());
        Check.same("held when it is over", 6, Check.ran(call + "NIL; RETURN").collectMinor());
        Check.same("freed when it is over", 10, Check.ran(call + "NIL; RETURN").collectMajor());
        Check.same("a local of the first of 200 frames", 0,
            Check.ran(OBJECT + "STORE 3;" + Deep.frames(200, "")).collectMajor());
        Check.same("a value below 200 frames", 0, Check.ran(OBJECT + Deep.frames(200, "")).collectMajor());
        Check.same("the uppermost and the lowest of 1000", 0,
            Check.ran(OBJECT + Deep.pile(998) + OBJECT).collectMajor());
    }

    private static void valuesTakenAreRoots() {
        Check.of("Terms", "Values that an instruction takes are still on the pile while it makes room.");
        ProtoMachine parent = Check.linked(8, 60, OBJECT + "NEW; NEW");
        Check.same("NEW", 1, parent.run(100));
        Check.rooms("its parent was held", parent, 3, 6, 1, 2, 0, 1, 0);
        Check.same("the parent", 2, parent.object(3, 3));
        ProtoMachine copy = Check.linked(8, 60, OBJECT + "DUP; NIL; SET 1; DUP; NIL; SET 2; CLONE");
        Check.same("CLONE", 1, copy.run(100));
        Check.rooms("its model was held", copy, 5, 5, 1, 1, 0, 1, 0);
        ProtoMachine set = Check.linked(8, 60, OBJECT + "DUP; NIL; SET 1; DUP; NIL; SET 2; NIL; NEW; SET 3");
        Check.same("SET", 1, set.run(100));
        Check.rooms("its object and its value were held", set, 0, 9, 0, 2, 0, 1, 0);
        Check.same("the value", 2, set.slot(1, 2, 2));
        ProtoMachine great = Check.linked(8, 17, Check.grown(6) + "GLOBAL 0; NIL; KEEP 0; CLONE");
        Check.same("no room, for the model is still held", 8, great.run(100));
        Check.same("it is there", 1, great.object(1, 0));
    }

    private static void makingInTheNursery() {
        Check.of("Terms", "TO MAKE an object of a size: if the nursery has not so much left, MINOR;");
        for (int nursery = 8; nursery <= 10; nursery++) {
            ProtoMachine m = Check.linked(nursery, 60, Check.repeat(OBJECT, 3));
            m.run(6);
            Check.same("MINORS for a third in " + nursery, nursery < 9 ? 1 : 0, m.many(5));
            Check.same("young ones in " + nursery, nursery < 9 ? 1 : 3, m.many(2));
        }
        for (int nursery = 9; nursery <= 11; nursery++) {
            ProtoMachine m = Check.linked(nursery, 60, Check.grown(2) + "GLOBAL 0; CLONE");
            m.run(11);
            Check.same("MINORS for a copy in " + nursery, nursery < 10 ? 1 : 0, m.many(5));
            Check.same("young ones with a copy in " + nursery, nursery < 10 ? 1 : 2, m.many(2));
        }
        ProtoMachine lost = Check.linked(8, 60, OBJECT + "POP;" + OBJECT + "POP;" + OBJECT);
        lost.run(8);
        Check.rooms("what is lost is freed by it", lost, 3, 0, 1, 0, 2, 1, 0);
        ProtoMachine all = Check.linked(9, 16, Check.grown(6) + "GLOBAL 0; CLONE");
        Check.same("a copy as great as all the nursery", 1, all.run(100));
        Check.rooms("is young, and needs no great room", all, 9, 9, 1, 1, 0, 1, 0);
        ProtoMachine many = Check.linked(8, 16, "LABEL 1; NIL; NEW; POP; JUMP 1");
        Check.same("5000 that are lost", 0, many.run(20000));
        Check.rooms("leave room for the next", many, 6, 0, 2, 0, 4998, 2499, 0);
    }

    private static void makingInTheGreatRoom() {
        Check.of("Terms", "if it still has not so much (it is greater than all of it), it is old from the beginning,"
            + " and THE GREAT ROOM must have so much left: else MAJOR; else (still) there is no room.");
        for (int nursery = 8; nursery <= 10; nursery++) {
            ProtoMachine m = Check.linked(nursery, 60, Check.grown(6) + "GLOBAL 0; CLONE");
            m.run(23);
            Check.same("where a copy of 9 cells is, in " + nursery, nursery < 9 ? 1 : 0, m.object(2, 0));
            Check.same("MINORS in " + nursery, new int[] {2, 1, 1}[nursery - 8], m.many(5));
        }
        for (int great = 17; great <= 19; great++) {
            ProtoMachine m = Check.linked(8, great, Check.grown(6) + "GLOBAL 0; CLONE");
            Check.same("9 and 9 cells in " + great, great < 18 ? 8 : 1, m.run(100));
            Check.same("MAJORS in " + great, great < 18 ? 1 : 0, m.many(6));
            Check.same("old cells in " + great, great < 18 ? 9 : 18, m.many(1));
        }
        ProtoMachine lost = Check.linked(8, 18, Check.grown(6) + "GLOBAL 0; CLONE; POP; GLOBAL 0; CLONE");
        lost.run(23 + 2);
        Check.rooms("full", lost, 0, 18, 0, 2, 0, 2, 0);
        Check.same("a lost copy makes room", 0, lost.step());
        Check.rooms("by a MAJOR", lost, 0, 18, 0, 2, 1, 3, 1);
        Check.same("the second copy is old", 1, lost.object(3, 0));
        Check.same("and never changed", 0, lost.object(3, 4));
    }

    private static void makingWithoutRoom() {
        Check.of("Terms", "it is old from the beginning, and THE GREAT ROOM must have so much left:"
            + " else MAJOR; else (still) there is no room.");
        ProtoMachine m = Check.linked(8, 26, Check.grown(6) + "GLOBAL 0; CLONE; GLOBAL 0; CLONE");
        Check.same("three of 9 cells in 26", 8, m.run(100));
        Check.rooms("the MAJOR freed none", m, 0, 18, 0, 2, 0, 3, 1);
        Check.same("no third", ProtoMachine.BAD, m.object(3, 0));
        Check.same("the model is still on the pile", 1, m.pile(0, 1));
        Check.same("three in 27", 1, Check.linked(8, 27, Check.grown(6) + "GLOBAL 0; CLONE; GLOBAL 0; CLONE").run(100));
    }

    private static void slotOfAYoungOne() {
        Check.of("Terms", "A SLOT COMES: the object's size grows by 1: of a young one, if the nursery has none left,"
            + " MINOR (then it is old);");
        for (int nursery = 8; nursery <= 10; nursery++) {
            ProtoMachine m = Check.linked(nursery, 60, Check.grown(6));
            m.run(21);
            Check.same("size in " + nursery, 9, m.object(1, 1));
            Check.same("where it is in " + nursery, nursery < 9 ? 1 : 0, m.object(1, 0));
            Check.same("MINORS in " + nursery, nursery < 9 ? 1 : 0, m.many(5));
            Check.same("cells in " + nursery, 9, m.many(nursery < 9 ? 1 : 0));
        }
        ProtoMachine same = Check.linked(8, 60, Check.grown(5) + "GLOBAL 0; PUSH 9; SET 4; GLOBAL 0; PUSH 9; SET 5");
        same.run(21);
        Check.rooms("a slot that is there needs none", same, 8, 0, 1, 0, 0, 0, 0);
        same.run(3);
        Check.rooms("one that comes does", same, 0, 9, 0, 1, 0, 1, 0);
        // The MINOR leaves the great room full, so that the slot, now of an old one, needs a MAJOR, too.
        ProtoMachine full = Check.linked(16, 16, Check.grown(13) + "GLOBAL 0; NIL; SET 20");
        Check.same("16 of 16 become old", 8, full.run(100));
        Check.rooms("and there is no more", full, 0, 16, 0, 1, 0, 1, 1);
        ProtoMachine more = Check.linked(16, 17, Check.grown(13) + "GLOBAL 0; NIL; SET 20");
        Check.same("16 of 17 become old", 1, more.run(100));
        Check.rooms("and one is left", more, 0, 17, 0, 1, 0, 1, 0);
        ProtoMachine none = Check.linked(17, 16, Check.grown(14) + "GLOBAL 0; NIL; SET 20");
        Check.same("17 can't become old in 16", 8, none.run(100));
        Check.rooms("it stays young", none, 17, 0, 1, 0, 0, 0, 1);
    }

    private static void slotOfAnOldOne() {
        Check.of("Terms", "of an old one, if THE GREAT ROOM has none left, MAJOR; else there is no room.");
        for (int great = 16; great <= 18; great++) {
            ProtoMachine m = Check.linked(8, great, Check.grown(14));
            Check.same("17 cells in " + great, great < 17 ? 8 : 1, m.run(100));
            Check.same("MAJORS in " + great, great < 17 ? 1 : 0, m.many(6));
            Check.same("slots in " + great, great < 17 ? 13 : 14, m.object(1, 2));
        }
        ProtoMachine lost = Check.linked(8, 16, Check.grown(10) + OBJECT + "POP; GLOBAL 0; NIL; SET 20");
        lost.run(33 + 2);
        Check.same("one of 3 cells more is old", 3, lost.collectMinor());
        lost.run(3);
        Check.rooms("full", lost, 0, 16, 0, 2, 0, 2, 0);
        Check.same("it makes room", 0, lost.step());
        Check.rooms("by a MAJOR", lost, 0, 14, 0, 1, 1, 2, 1);
        ProtoMachine nursery = Check.linked(8, 16, Check.grown(13) + "GLOBAL 0; NIL; SET 20");
        Check.same("an empty nursery is none for an old one", 8, nursery.run(100));
        Check.rooms("no MINOR by it", nursery, 0, 16, 0, 1, 0, 1, 1);
        ProtoMachine young = Check.linked(8, 16, Check.grown(12) + OBJECT + OBJECT + "POP; POP; GLOBAL 0; NIL; SET 20");
        young.run(39 + 6 + 3);
        Check.rooms("a full nursery matters not to an old one", young, 6, 16, 2, 1, 0, 1, 0);
    }

    private static void slotThatGoes() {
        Check.of("Terms", "A slot that goes gives its 1 back at once.");
        ProtoMachine young = Check.linked(8, 60, Check.grown(5)
            + "GLOBAL 0; DROP 2; GLOBAL 0; NIL; SET 9; GLOBAL 0; NIL; SET 10");
        young.run(18);
        Check.rooms("full", young, 8, 0, 1, 0, 0, 0, 0);
        young.run(2);
        Check.rooms("one is back", young, 7, 0, 1, 0, 0, 0, 0);
        young.run(3);
        Check.rooms("and taken", young, 8, 0, 1, 0, 0, 0, 0);
        young.run(3);
        Check.rooms("another needs a MINOR", young, 0, 9, 0, 1, 0, 1, 0);
        ProtoMachine old = Check.linked(8, 16, Check.grown(13)
            + "GLOBAL 0; DROP 2; GLOBAL 0; NIL; SET 20; GLOBAL 0; NIL; SET 21");
        old.run(42);
        Check.rooms("full of old", old, 0, 16, 0, 1, 0, 1, 0);
        old.run(2);
        Check.rooms("one of old is back", old, 0, 15, 0, 1, 0, 1, 0);
        old.run(3);
        Check.rooms("and taken of old", old, 0, 16, 0, 1, 0, 1, 0);
        Check.same("another has no room", 8, old.run(3));
    }

    private static void held() {
        Check.of("Terms", "MINOR: HELD are young objects that can be come to from roots or from old ones (by slots and parents,"
            + " over any steps, whether those old ones can be come to or not).");
        String old = OBJECT + "KEEP 0; GLOBAL 0; NIL; SET 1;";
        // What is young then is held by object 1 alone, which is old; at last it is lost itself.
        String[] ways = {"GLOBAL 0; NIL; NEW; SET 1;", "GLOBAL 0; NIL; NEW; ADOPT;"};
        for (String way : ways) {
            for (String then : new String[] {"", "NIL; KEEP 0;"}) {
                ProtoMachine m = Check.linked(60, 200, old + way + then + "NIL");
                m.run(6);
                Check.same("it is old", 4, m.collectMinor());
                m.run(100);
                Check.same("held by " + way + then, 3, m.collectMinor());
                Check.same("it is old, too", 1, m.object(2, 0));
                Check.same("a MAJOR frees them only if both are lost", then.isEmpty() ? 0 : 7, m.collectMajor());
            }
        }
        ProtoMachine far = Check.linked(200, 4000, Deep.parents(60, "NIL"));
        far.run(20000);
        Check.same("over 60 parents", 180, far.collectMinor());
        ProtoMachine slots = Check.ran("LABEL 1;" + Check.repeat("NIL; NEW; DUP; GLOBAL 0; SET 3; KEEP 0", 40) + "NIL");
        Check.same("over 40 slots", 160, slots.collectMinor());
        ProtoMachine cycle = Check.ran(Check.grown(0)
            + "GLOBAL 0; NEW; KEEP 1; GLOBAL 0; GLOBAL 1; SET 1; NIL; KEEP 0; NIL; KEEP 1");
        Check.same("a cycle that is young and lost", 0, cycle.collectMinor());
        Check.same("is freed", 2, cycle.many(4));
        ProtoMachine young = Check.ran(OBJECT + "KEEP 0; GLOBAL 0; NIL; NEW; SET 1; NIL; KEEP 0");
        Check.same("a young one that is lost holds none", 0, young.collectMinor());
    }

    /** Old ones that are lost have 6 cells of a great room; young ones of 9 cells are held. */
    private static ProtoMachine lostAndYoung(int great) {
        ProtoMachine m = Check.linked(30, great, OBJECT + OBJECT + "POP; POP;" + Check.repeat(OBJECT, 3) + "NIL");
        m.run(4);
        m.collectMinor();
        m.run(8);
        return m;
    }

    private static void minorWithMajor() {
        Check.of("Terms", "If THE GREAT ROOM has less left than all HELD are, MAJOR first, and then HELD anew;");
        ProtoMachine enough = Check.linked(30, 16, OBJECT + OBJECT + "POP; POP;" + Check.grown(7) + "NIL");
        enough.run(4);
        enough.collectMinor();
        enough.run(100);
        Check.same("10 cells into 10", 10, enough.collectMinor());
        Check.rooms("without a MAJOR", enough, 0, 16, 0, 3, 0, 2, 0);
        ProtoMachine less = Check.linked(30, 16, OBJECT + OBJECT + "POP; POP;" + Check.grown(8) + "NIL");
        less.run(4);
        less.collectMinor();
        less.run(100);
        Check.same("11 cells into 10", 11, less.collectMinor());
        Check.rooms("with a MAJOR", less, 0, 11, 0, 1, 2, 2, 1);
        // An old one that is lost holds 12 young cells: after the MAJOR they are held no more.
        ProtoMachine anew = Check.linked(30, 16, Check.grown(1) + "GLOBAL 0;" + Check.grown(9)
            + "GLOBAL 0; SET 0; NIL; KEEP 0; NIL");
        anew.run(7);
        Check.same("an old one", 4, anew.collectMinor());
        anew.run(100);
        Check.same("its young one fits", 12, anew.collectMinor());
        ProtoMachine gone = Check.linked(30, 16, Check.grown(1) + "GLOBAL 0;" + Check.grown(10)
            + "GLOBAL 0; SET 0; NIL; KEEP 0; NIL");
        gone.run(7);
        gone.collectMinor();
        gone.run(100);
        Check.same("a young one of 13 into 12 is lost with its old one", 0, gone.collectMinor());
        Check.rooms("both are freed", gone, 0, 0, 0, 0, 2, 2, 1);
    }

    private static void minorWithoutRoom() {
        Check.of("Terms", "if it still has less, there is no room, and nothing is done further.");
        for (int slots = 12; slots <= 14; slots++) {
            ProtoMachine m = Check.linked(30, 16, OBJECT + "POP;" + Check.grown(slots) + OBJECT + "POP; NIL");
            m.run(2);
            Check.same("an old one", 3, m.collectMinor());
            m.run(1000);
            int size = slots + 3;
            Check.same(size + " cells into 16", size <= 16 ? size : NO_ROOM, m.collectMinor());
            // The lost ones are freed in any case, by the MAJOR.
            if (size <= 16) {
                Check.rooms("done, with " + size, m, 0, size, 0, 1, 2, 2, 1);
            } else {
                Check.rooms("not done, with " + size, m, size, 0, 1, 0, 2, 1, 1);
            }
        }
    }

    private static void minorWithoutRoomInAStep() {
        Check.of("Terms", "if it still has less, there is no room, and nothing is done further.");
        // Objects 1 to 4 are old, 5 and 6 young; 7 is wanted, and a MINOR has 4 cells for 6.
        ProtoMachine make = Check.linked(8, 16, Check.repeat(OBJECT, 7));
        Check.same("NEW", 8, make.run(100));
        Check.rooms("of NEW", make, 6, 12, 2, 4, 0, 2, 1);
        ProtoMachine slot = Check.linked(8, 16, Check.repeat(OBJECT, 6)
            + "DUP; NIL; SET 1; DUP; NIL; SET 2; DUP; NIL; SET 3");
        Check.same("SET", 8, slot.run(100));
        Check.rooms("of SET", slot, 8, 12, 2, 4, 0, 2, 1);
        Check.same("slots of it", 2, slot.object(6, 2));
        Check.same("it is young", 0, slot.object(6, 0));
        // One that is lost and young goes with the MAJOR; the MINOR still has 1 cell for 3, and the step ends by that.
        ProtoMachine lost = Check.linked(8, 16, Check.grown(12) + OBJECT + OBJECT + "POP; NIL; NEW");
        lost.run(39 + 4 + 1 + 1);
        Check.rooms("before", lost, 6, 15, 2, 1, 0, 1, 0);
        Check.same("NEW after a MINOR without room", 8, lost.step());
        Check.rooms("though the nursery has some then", lost, 3, 15, 1, 1, 1, 1, 1);
    }

    private static void minorMakesOld() {
        Check.of("Terms", "Else HELD ones are old, all other young ones are FREED.");
        ProtoMachine m = lostAndYoung(60);
        Check.same("held", 9, m.collectMinor());
        Check.rooms("the lost old ones stay", m, 0, 15, 0, 5, 0, 2, 0);
        ProtoMachine both = Check.ran(OBJECT + OBJECT + "POP;" + OBJECT + OBJECT + "POP");
        Check.same("two of four", 6, both.collectMinor());
        Check.rooms("then", both, 0, 6, 0, 2, 2, 1, 0);
        for (int serial = 1; serial <= 4; serial++) {
            Check.same("where " + serial + " is", serial % 2 == 1 ? 1 : 2, both.object(serial, 0));
        }
        Check.same("none are young", 0, both.collectMinor());
    }

    private static void major() {
        Check.of("Terms", "MAJOR: all objects that can not be come to from roots are FREED.");
        ProtoMachine m = lostAndYoung(60);
        Check.same("lost old ones", 6, m.collectMajor());
        Check.rooms("the young ones stay young", m, 9, 0, 3, 0, 2, 1, 1);
        ProtoMachine young = Check.ran(OBJECT + OBJECT + "POP");
        Check.same("a lost young one", 3, young.collectMajor());
        Check.same("an old one that is lost holds none", 7, lostHolder().collectMajor());
        ProtoMachine cycle = Check.ran(Check.grown(0)
            + "GLOBAL 0; NEW; KEEP 1; GLOBAL 0; GLOBAL 1; SET 1; NIL; KEEP 0; NIL; KEEP 1");
        Check.same("a lost cycle", 7, cycle.collectMajor());
        ProtoMachine half = Check.ran(Check.grown(0) + "GLOBAL 0; NEW; KEEP 1; GLOBAL 0; GLOBAL 1; SET 1; NIL; KEEP 0");
        Check.same("a cycle that is held at one end", 0, half.collectMajor());
    }

    /** An old one of 4 cells that is lost and has a young one of 3. */
    private static ProtoMachine lostHolder() {
        ProtoMachine m = Check.linked(60, 200, Check.grown(1) + "GLOBAL 0; NIL; NEW; SET 0; NIL; KEEP 0");
        m.run(6);
        m.collectMinor();
        m.run(100);
        return m;
    }
}
