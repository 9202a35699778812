/** Terms: STEPS, a test for each sentence. */
final class StepEdges {
    private static final String OBJECT = "NIL; NEW;";
    private static final String METHOD = OBJECT + "DUP; METHOD 1; SET 1;";
    // The last word of each ends with the number of its place.
    private static final String[] TO_THE_END = {
        "NIL; NIL",
        "NIL; HALT",
        OBJECT + "GET 1",
        "NIL; PARENT",
        "PUSH 1; PUSH 0; DIV",
        "NIL; ADD",
        "PUSH 1073741823; PUSH 1; ADD",
        OBJECT + "DUP; NIL; SET 1; PUSH 5; SEND 1 1",
        Check.repeat(OBJECT, 7),
        OBJECT + "DUP; ADOPT",
        Check.grown(40) + "GLOBAL 0; NIL; SET 63",
    };

    private StepEdges() {
    }

    /** A machine that is running, and ends so with its next step. */
    static ProtoMachine before(int end) {
        ProtoMachine m = end == 8 ? Check.linked(8, 16, TO_THE_END[end]) : Check.linked(200, 4000, TO_THE_END[end]);
        m.run(m.many(13) - 1);
        return m;
    }

    /** One that has ended so, and was asked for more steps then. */
    private static ProtoMachine after(int end, int times) {
        ProtoMachine m = before(end);
        for (int i = 0; i < times; i++) {
            Check.same("step " + i + " of " + end, end, m.step());
            Check.same("run after step " + i + " of " + end, end, m.run(20000));
        }
        return m;
    }

    static void all() {
        runningAndHalted();
        notFound();
        otherKinds();
        byZero();
        tooFewValues();
        tooManyValues();
        tooManyFrames();
        localsThatAreNot();
        intsBeyond();
        noEnter();
        noRoom();
        ownParent();
        tooManySlots();
        tooFewComesFirst();
        kindsComeSecond();
        notFoundComesBefore();
        slotsComeBeforeRoom();
        entersComeBeforeFrames();
        allIsAsBefore();
    }

    private static void runningAndHalted() {
        Check.of("Terms", "STEPS. The machine is RUNNING (0), or it ended: 1 HALTED (HALT; a step behind the last word,"
            + " which is as one; RETURN of the first frame);");
        ProtoMachine m = Check.linked(20, 60, "NIL; POP");
        Check.same("the first", 0, m.step());
        Check.same("the last word", 0, m.step());
        Check.same("behind it", 1, m.step());
        Check.same("steps", 3, m.many(9));
        Check.same("and so it stays", 1, m.step());
        Check.same("steps still", 3, m.many(9));
        Check.ends("", 1, 0, 0);
        Check.ends("HALT", 1, 0, 0);
        Check.ends("JUMP 1; NIL; LABEL 1", 1, 3, 0);
        Check.ends("NIL; RETURN; NIL", 1, 1, 1);
        Check.ends(METHOD + "SEND 1 0; NIL; HALT; LABEL 1; ENTER 0 0; NIL; RETURN", 1, 7, 2);
        ProtoMachine called = Check.ran(METHOD + "SEND 1 0; NIL; LABEL 1; ENTER 0 0");
        Check.same("behind the last word in a call", 1, called.step());
        Check.same("frames then", 2, called.many(12));
    }

    private static void notFound() {
        Check.of("Terms", "2 a name is not FOUND, or DROP of a slot that is not there;");
        for (int name = 0; name <= 3; name++) {
            int due = name < 3 ? 1 : 2;
            Check.same("GET " + name, due, Check.ran(Check.grown(3) + "GLOBAL 0; GET " + name).step());
            Check.same("SEND " + name, due, Check.ran(Check.grown(3) + "GLOBAL 0; SEND " + name + " 0").step());
            Check.same("DROP " + name, due, Check.ran(Check.grown(3) + "GLOBAL 0; DROP " + name).step());
            Check.same("HAS " + name, 1, Check.ran(Check.grown(3) + "GLOBAL 0; HAS " + name).step());
            Check.same("GET of a child " + name, due, Check.ran(Check.grown(3) + "GLOBAL 0; NEW; GET " + name).step());
            Check.same("DROP of a child " + name, 2, Check.ran(Check.grown(3) + "GLOBAL 0; NEW; DROP " + name).step());
        }
        Check.ends(Check.grown(1) + "GLOBAL 0; DROP 0; GLOBAL 0; DROP 0", 2, 9, 1);
        for (String value : new String[] {"NIL", "PUSH 1", "METHOD 1"}) {
            Check.ends("LABEL 1; " + value + "; GET 0", 2, 2, 1);
            Check.ends("LABEL 1; " + value + "; SEND 0 0", 2, 2, 1);
        }
    }

    private static void kinds(String word, boolean nil, boolean isInt, boolean object, boolean method) {
        String[] values = {"NIL", "PUSH 3", "GLOBAL 0", "METHOD 1"};
        boolean[] fits = {nil, isInt, object, method};
        for (int kind = 0; kind < values.length; kind++) {
            String code = "LABEL 1; " + Check.grown(1) + "GLOBAL 0; NEW; KEEP 1; " + word.replace("?", values[kind]);
            Check.same("end of " + word + " with " + values[kind], fits[kind] ? 1 : 3, Check.ran(code).step());
        }
    }

    private static void otherKinds() {
        Check.of("Terms", "3 an operand is of another kind than told");
        for (String op : "ADD SUB MUL DIV REM LESS".split(" ")) {
            kinds("?; PUSH 2; " + op, false, true, false, false);
            kinds("PUSH 2; ?; " + op, false, true, false, false);
        }
        kinds("?; NEW", true, false, true, false);
        kinds("?; CLONE", false, false, true, false);
        kinds("?; NIL; SET 1", false, false, true, false);
        kinds("GLOBAL 0; ?; SET 1", true, true, true, true);
        kinds("?; DROP 0", false, false, true, false);
        kinds("?; PARENT", false, false, true, false);
        kinds("?; NIL; ADOPT", false, false, true, false);
        kinds("GLOBAL 1; ?; ADOPT", true, false, true, false);
        for (int kind : new int[] {0, 1, 3}) {
            kinds("?; PROTO " + kind, true, false, true, false);
        }
        for (String any : new String[] {"POP", "DUP", "NIL; SWAP", "NIL; EQUAL", "UNLESS 2; LABEL 2", "STORE 0", "KEEP 5",
            "HAS 0", "PRINT", "RETURN"}) {
            kinds("?; " + any, true, true, true, true);
        }
    }

    private static void byZero() {
        Check.of("Terms", "(also of DIV, REM by 0: 4);");
        for (String op : "DIV REM".split(" ")) {
            for (int first : new int[] {-1073741824, -1, 0, 1, 1073741823}) {
                Check.ends("PUSH " + first + "; PUSH 0; " + op, 4, 2, 2);
                Check.ends("PUSH " + first + "; PUSH 1; " + op, 1, 3, 1);
            }
            Check.ends("PUSH 5; PUSH -1; " + op, 1, 3, 1);
        }
        Check.ends("PUSH 5; PUSH 0; MUL", 1, 3, 1);
        Check.ends("PUSH 5; PUSH 0; LESS", 1, 3, 1);
    }

    private static void tooFewValues() {
        Check.of("Terms", "5 the pile: fewer values of the frame than are wanted,");
        String[] one = {"POP", "DUP", "UNLESS 1", "STORE 0", "KEEP 0", "NEW", "CLONE", "GET 0", "DROP 0", "HAS 0", "PARENT",
            "PROTO 1", "SEND 0 0", "RETURN", "PRINT"};
        String[] two = {"SWAP", "ADD", "SUB", "MUL", "DIV", "REM", "LESS", "EQUAL", "SET 0", "ADOPT", "SEND 0 1"};
        String object = "LABEL 1; " + Check.grown(1);
        for (String word : one) {
            Check.ends(object + word, 5, 7, 0);
            Check.holds("one is enough for " + word, Check.ran(object + "GLOBAL 0; " + word).step() != 5);
        }
        for (String word : two) {
            Check.ends(object + word, 5, 7, 0);
            Check.ends(object + "GLOBAL 0; " + word, 5, 8, 1);
            Check.holds("two are enough for " + word, Check.ran(object + "GLOBAL 0; PUSH 1; " + word).step() != 5);
        }
        for (int b = 0; b <= 8; b++) {
            Check.ends(Check.repeat("NIL", b) + "SEND 0 " + b, 5, b, b);
            Check.ends(Check.repeat("NIL", b + 1) + "SEND 0 " + b, 2, b + 1, b + 1);
        }
        for (String word : new String[] {"HALT", "PUSH 1", "NIL", "JUMP 1", "LOCAL 0", "GLOBAL 0", "METHOD 1", "SELF",
            "ENTER 1 1"}) {
            Check.same("none is wanted by " + word, 1, Check.ran("NIL; POP; " + word + "; LABEL 1").step());
        }
    }

    private static void tooManyValues() {
        Check.of("Terms", "a 1001st,");
        for (String word : "PUSH 1,NIL,DUP,LOCAL 0,GLOBAL 0,SELF,METHOD 199".split(",")) {
            for (int values = 998; values <= 1000; values++) {
                ProtoMachine m = Check.linked(20, 60, Deep.pile(values) + word);
                Check.same(word + " after " + values, values < 1000 ? 1 : 5, m.run(20000));
                Check.same("values of it", Math.min(1000, values + 1), m.many(11));
            }
        }
        for (String word : "SWAP,HAS 0,NEW,NEW; CLONE,NEW; PARENT,EQUAL".split(",")) {
            Check.same(word + " takes before it brings", 1, Check.linked(20, 60, Deep.pile(1000) + word).run(20000));
        }
        // The receiver goes, so that what is called has 999 below it: room for one value, not for two.
        String call = METHOD + "KEEP 0;" + Deep.pile(999) + "GLOBAL 0; SEND 1 0; HALT; LABEL 1; ENTER 0 0; NIL;";
        Check.same("a 1000th in a call", 1, Check.linked(20, 60, call).run(20000));
        Check.same("a 1001st in a call", 5, Check.linked(20, 60, call + "NIL").run(20000));
    }

    private static void tooManyFrames() {
        Check.of("Terms", "a 201st frame,");
        for (int frames = 198; frames <= 200; frames++) {
            ProtoMachine m = Check.linked(20, 60, Deep.frames(frames, "GLOBAL 14; SEND 62 0"));
            Check.same("one more than " + frames, frames < 200 ? 1 : 5, m.run(20000));
            Check.same("frames", Math.min(200, frames + 1), m.many(12));
            Check.same("values", frames < 200 ? 0 : 1, m.many(11));
        }
        ProtoMachine slot = Check.linked(20, 60, Deep.frames(200, "GLOBAL 14; PUSH 3; SET 5; GLOBAL 14; SEND 5 0; PRINT"));
        Check.same("what is no method needs no frame", 1, slot.run(20000));
        ProtoMachine back = Check.linked(20, 60, Deep.frames(200, "NIL; RETURN"));
        Check.same("all come back", 1, back.run(20000));
        Check.same("to the first", 1, back.many(12));
    }

    private static void localsThatAreNot() {
        Check.of("Terms", "a local that the frame has not;");
        int[][] enters = {{0, 0}, {0, 1}, {1, 0}, {1, 1}, {2, 3}, {0, 15}, {8, 7}};
        for (int[] each : enters) {
            String call = METHOD + Check.repeat("NIL", each[0]) + "SEND 1 " + each[0] + "; HALT; LABEL 1; ENTER "
                + each[0] + " " + each[1] + "; ";
            int has = each[0] + each[1];
            for (int k = Math.max(0, has - 1); k <= 15 && k <= has + 1; k++) {
                ProtoMachine local = Check.ran(call + "LOCAL " + k);
                Check.same("LOCAL " + k + " of " + has, k < has ? 1 : 5, local.step());
                ProtoMachine store = Check.ran(call + "NIL; STORE " + k);
                Check.same("STORE " + k + " of " + has, k < has ? 1 : 5, store.step());
                Check.same("values after STORE", k < has ? 0 : 1, store.many(11));
            }
            Check.same("LOCAL 15 of " + has, 5, Check.ran(call + "LOCAL 15").step());
        }
        Check.same("LOCAL 15 of the first", 1, Check.ran("LOCAL 15").step());
        Check.same("STORE 15 of the first", 1, Check.ran("NIL; STORE 15").step());
    }

    private static void reckoned(int first, String op, int second, int due) {
        Check.prints("PUSH " + first + "; PUSH " + second + "; " + op + "; PRINT", 1, due);
    }

    private static void intsBeyond() {
        Check.of("Terms", "6 an int beyond;");
        int least = -1073741824;
        int most = 1073741823;
        reckoned(most - 1, "ADD", 1, most);
        reckoned(most, "ADD", 0, most);
        reckoned(least + 1, "ADD", -1, least);
        reckoned(least + 1, "SUB", 1, least);
        reckoned(most - 1, "SUB", -1, most);
        reckoned(-1, "SUB", least, most);
        reckoned(32768, "MUL", -32768, least);
        reckoned(32767, "MUL", 32769, most);
        reckoned(least, "MUL", 1, least);
        reckoned(-most, "DIV", -1, most);
        Object[][] beyond = {{most, "ADD", 1}, {1, "ADD", most}, {least, "ADD", -1}, {most, "ADD", most},
            {least, "ADD", least}, {least, "SUB", 1}, {most, "SUB", -1}, {0, "SUB", least}, {most, "SUB", least},
            {least, "SUB", most}, {32768, "MUL", 32768}, {least, "MUL", -1}, {least, "MUL", 2}, {65536, "MUL", 65536},
            {most, "MUL", most}, {least, "MUL", least}, {536870912, "MUL", 8}, {least, "DIV", -1}};
        for (Object[] each : beyond) {
            Check.ends("PUSH " + each[0] + "; PUSH " + each[2] + "; " + each[1], 6, 2, 2);
        }
    }

    private static void noEnter() {
        Check.of("Terms", "7 a method without its ENTER for so many values, or SEND with values to what is no method;");
        for (int sent = 0; sent <= 2; sent++) {
            String send = METHOD + Check.repeat("NIL", sent) + "SEND 1 " + sent + "; HALT; LABEL 1; ";
            for (int entered = 0; entered <= 3; entered++) {
                ProtoMachine m = Check.ran(send + "ENTER " + entered + " 1; HALT");
                Check.same(sent + " to ENTER " + entered, sent == entered ? 1 : 7, m.step());
            }
            Check.same(sent + " to no ENTER", 7, Check.ran(send + "NIL; HALT").step());
            Check.same(sent + " to behind the last word", 7, Check.ran(send).step());
            for (String value : new String[] {"NIL", "PUSH 3", "NIL; NEW"}) {
                ProtoMachine m = Check.ran(OBJECT + "DUP; " + value + "; SET 1; " + Check.repeat("NIL", sent)
                    + "SEND 1 " + sent);
                Check.same(sent + " to " + value, sent == 0 ? 1 : 7, m.step());
                Check.same("values then", sent + 1, m.many(11));
            }
        }
    }

    private static void noRoom() {
        Check.of("Terms", "8 no room;");
        for (int great = 17; great <= 19; great++) {
            // Six objects of 3 cells in a nursery that keeps two: the last two must find room as the seventh comes.
            ProtoMachine m = Check.linked(8, great, Check.repeat(OBJECT, 7));
            Check.same("NEW in " + great, great < 18 ? 8 : 1, m.run(100));
            ProtoMachine copy = Check.linked(8, great, Check.grown(6) + "GLOBAL 0; CLONE");
            Check.same("CLONE in " + great, great < 18 ? 8 : 1, copy.run(100));
            ProtoMachine slot = Check.linked(8, great, Check.grown(15));
            Check.same("SET in " + great, great < 18 ? 8 : 1, slot.run(100));
        }
    }

    private static void ownParent() {
        Check.of("Terms", "9 ADOPT by which an object would be in its own parent's chain;");
        String line = OBJECT + "KEEP 0; GLOBAL 0; NEW; KEEP 1; GLOBAL 1; NEW; KEEP 2; NIL; NEW; KEEP 3;";
        for (int object = 0; object <= 3; object++) {
            for (int parent = 0; parent <= 3; parent++) {
                ProtoMachine m = Check.ran(line + "GLOBAL " + object + "; GLOBAL " + parent + "; ADOPT");
                boolean own = object == parent || object < parent && parent < 3;
                Check.same(object + " under " + parent, own ? 9 : 1, m.step());
                Check.same("values then", own ? 2 : 0, m.many(11));
            }
            Check.same(object + " under NIL", 1, Check.ran(line + "GLOBAL " + object + "; NIL; ADOPT").step());
        }
        Check.same("through a slot is none", 1, Check.ran(line + "GLOBAL 0; GLOBAL 2; SET 1").step());
        Check.same("of 900", 9, Check.ran(Deep.parents(900, "GLOBAL 0; LABEL 1; DUP; PARENT; DUP; UNLESS 2; SWAP; POP;"
            + "JUMP 1; LABEL 2; POP; GLOBAL 0; ADOPT")).step());
    }

    private static void tooManySlots() {
        Check.of("Terms", "10 a 41st slot.");
        for (int slots = 38; slots <= 40; slots++) {
            ProtoMachine m = Check.ran(Check.grown(slots) + "GLOBAL 0; NIL; SET 63");
            Check.same("one more than " + slots, slots < 40 ? 1 : 10, m.step());
            Check.same("slots", Math.min(40, slots + 1), m.object(1, 2));
            Check.same("values", slots < 40 ? 0 : 2, m.many(11));
        }
        Check.same("a value for one of the 40", 1, Check.ran(Check.grown(40) + "GLOBAL 0; NIL; SET 39").step());
        Check.same("one goes, another comes", 1, Check.ran(Check.grown(40)
            + "GLOBAL 0; DROP 0; GLOBAL 0; NIL; SET 63").step());
        Check.same("of a child", 1, Check.ran(Check.grown(40) + "GLOBAL 0; NEW; NIL; SET 63").step());
        Check.same("of a copy", 10, Check.ran(Check.grown(40) + "GLOBAL 0; CLONE; NIL; SET 63").step());
    }

    private static final String ORDER = "Of several reasons for one step: 5 for too few values,"
        + " 3 (from the lowest value of those that go on), 4, 2, 9, 10, 7, 5 for too many, 6, 8.";
    // Two young objects and four old ones, all held, in rooms of 8 and 16: nothing more can be made.
    private static final String FULL = "LABEL 1;" + Check.repeat(OBJECT, 6)
        + "KEEP 0; KEEP 1; KEEP 2; KEEP 3; KEEP 4; KEEP 5;";

    private static void inFullRooms(String words, int due) {
        ProtoMachine m = Check.linked(8, 16, FULL + words);
        Check.same("in full rooms: " + words, due, m.run(100));
        if (due == 8) {
            Check.same("a MAJOR was tried", 1, m.many(6));
        } else {
            Check.rooms("no room was made for it", m, 6, 12, 2, 4, 0, 2, 0);
        }
    }

    private static void tooFewComesFirst() {
        Check.of("Terms", ORDER);
        Check.ends("NIL; ADD", 5, 1, 1);
        Check.ends("NIL; LESS", 5, 1, 1);
        Check.ends("NIL; SET 1", 5, 1, 1);
        Check.ends("PUSH 1; ADOPT", 5, 1, 1);
        Check.ends("PUSH 0; DIV", 5, 1, 1);
        Check.ends("NIL; SEND 1 1", 5, 1, 1);
        inFullRooms("NEW", 5);
        inFullRooms("CLONE", 5);
        inFullRooms("NIL; SET 1", 5);
        inFullRooms("NIL; NEW", 8);
    }

    private static void kindsComeSecond() {
        Check.of("Terms", ORDER);
        Check.ends("NIL; PUSH 0; DIV", 3, 2, 2);
        Check.ends("NIL; PUSH 0; REM", 3, 2, 2);
        Check.ends("PUSH 1; DROP 0", 3, 1, 1);
        Check.ends("NIL; NIL; ADOPT", 3, 2, 2);
        inFullRooms("PUSH 1; NEW", 3);
        inFullRooms("METHOD 1; NEW", 3);
        inFullRooms("NIL; CLONE", 3);
        inFullRooms("NIL; NIL; SET 1", 3);
        inFullRooms("GLOBAL 0; CLONE", 8);
        Check.ends("PUSH -1073741824; PUSH 0; DIV", 4, 2, 2);
    }

    private static void notFoundComesBefore() {
        Check.of("Terms", ORDER);
        Check.ends(OBJECT + "NIL; SEND 1 1", 2, 3, 2);
        Check.ends("NIL; NIL; SEND 1 1", 2, 2, 2);
        ProtoMachine deep = Check.linked(20, 60, Deep.frames(200, "GLOBAL 14; SEND 9 0"));
        Check.same("not found, and no frame", 2, deep.run(20000));
        ProtoMachine deepToo = Check.linked(20, 60, Deep.frames(200, "GLOBAL 14; NIL; SEND 9 1"));
        Check.same("not found, with values, and no frame", 2, deepToo.run(20000));
    }

    private static void slotsComeBeforeRoom() {
        Check.of("Terms", ORDER);
        for (int great = 42; great <= 44; great++) {
            ProtoMachine m = Check.linked(8, great, Check.grown(40) + "GLOBAL 0; NIL; SET 63");
            Check.same("a 41st slot in " + great, great < 43 ? 8 : 10, m.run(1000));
            Check.same("MAJORS of it", great < 43 ? 1 : 0, m.many(6));
            Check.same("slots of it", great < 43 ? 39 : 40, m.object(1, 2));
        }
        ProtoMachine young = Check.linked(43, 16, Check.grown(40) + "GLOBAL 0; NIL; SET 63");
        Check.same("of a young one that fills the nursery", 10, young.run(1000));
        Check.rooms("then", young, 43, 0, 1, 0, 0, 0, 0);
    }

    private static void entersComeBeforeFrames() {
        Check.of("Terms", ORDER);
        String[] words = {"GLOBAL 14; SEND 61 0", "GLOBAL 14; NIL; SEND 62 1",
            "GLOBAL 14; PUSH 3; SET 5; GLOBAL 14; NIL; SEND 5 1",
            "GLOBAL 14; SEND 62 0"};
        for (int i = 0; i < words.length; i++) {
            ProtoMachine m = Check.linked(20, 60, Deep.frames(200, words[i]));
            Check.same("in frame 200: " + words[i], i < 3 ? 7 : 5, m.run(20000));
        }
    }

    private static void allIsAsBefore() {
        Check.of("Terms", "With 2 .. 10 all is as before the step, and stays so (but for what room was made).");
        for (int end = 2; end <= 10; end++) {
            if (end == 8) {
                Check.holds("with 8", Looks.besidesRoom(before(8)).equals(Looks.besidesRoom(after(8, 1))));
            } else {
                Check.holds("with " + end, Looks.all(before(end)).equals(Looks.all(after(end, 1))));
            }
            Check.holds("it stays so with " + end, Looks.all(after(end, 1)).equals(Looks.all(after(end, 3))));
        }
        String[] more = {OBJECT + "DROP 1", "GLOBAL 0; NIL; STORE 3; CLONE", OBJECT + "NIL; SEND 1 1",
            "LABEL 1; " + METHOD + "NIL; SEND 1 1", "PUSH 7; PUSH 0; REM", OBJECT + "NEW; DUP; PARENT; SWAP; ADOPT"};
        for (String code : more) {
            ProtoMachine before = Check.linked(200, 4000, code);
            before.run(before.many(13) - 1);
            ProtoMachine after = Check.ran(code);
            Check.holds("bad: " + code, after.step() > 1);
            Check.holds("as before: " + code, Looks.all(before).equals(Looks.all(after)));
        }
        ProtoMachine made = Check.linked(16, 16, Check.grown(13) + "GLOBAL 0; PUSH 1; SET 20");
        Check.same("no room", 8, made.run(100));
        Check.rooms("room was made by a MINOR and a MAJOR", made, 0, 16, 0, 1, 0, 1, 1);
        Check.same("the slot did not come", 13, made.object(1, 2));
        Check.same("it changed no more", 42, made.object(1, 4));
    }
}
