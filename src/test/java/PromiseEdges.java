/** Promises 1 to 17, a test for each sentence. */
final class PromiseEdges {
    private static final int BAD = ProtoMachine.BAD;
    private static final int NO_ROOM = ProtoMachine.NO_ROOM;
    private static final int LEAST = Integer.MIN_VALUE;
    private static final int MOST = Integer.MAX_VALUE;
    private static final String OBJECT = "NIL; NEW;";

    private PromiseEdges() {
    }

    static void all() {
        newOneHasNoCode();
        nurseryOfANewOne();
        greatRoomOfANewOne();
        asmCounts();
        asmIsFull();
        wipeEmpties();
        linkBegins();
        linkTellsTheWord();
        faultOfTheLatestLink();
        stepTells();
        stepNotLinked();
        runTells();
        runRefuses();
        restartBegins();
        restartNotLinked();
        collectMinorTells();
        collectMinorWithoutRoom();
        collectMinorNotLinked();
        collectMajorTells();
        collectMajorNotLinked();
        manyObjects();
        manyCollections();
        manySites();
        manySteps();
        manyWordAt();
        manyValuesFramesWords();
        manyRefuses();
        manyNotLinked();
        pileTells();
        pileRefuses();
        localTells();
        localRefuses();
        objectTellsWhere();
        objectTellsSizes();
        objectTellsChange();
        objectRefuses();
        slotTells();
        slotRefuses();
        outSizeTells();
        outTells();
        outRefuses();
    }

    private static ProtoMachine laid(String code) {
        ProtoMachine m = new ProtoMachine(200, 4000);
        Check.lay(m, code);
        return m;
    }

    private static void newOneHasNoCode() {
        Check.of("Promise 1", "No code;");
        ProtoMachine m = new ProtoMachine(20, 60);
        Check.same("words", 0, m.many(13));
        Check.same("wipe", 0, m.wipe());
        Check.same("link", 0, m.link());
        Check.same("a step behind no word", 1, m.step());
        Check.same("the first word", 1, new ProtoMachine(20, 60).asm(0, 0, 0));
    }

    private static void nurseryOfANewOne() {
        Check.of("Promise 1", "a nursery of so many cells (the nearest of 8 .. 200)");
        int[][] givenAndDue = {{LEAST, 8}, {-8, 8}, {-1, 8}, {0, 8}, {7, 8}, {8, 8}, {9, 9}, {100, 100}, {199, 199},
            {200, 200}, {201, 200}, {4000, 200}, {MOST, 200}};
        for (int[] each : givenAndDue) {
            nurseryHas(each[0], each[1]);
        }
    }

    /** Fills it to its last cell without a MINOR; one cell more brings one. */
    private static void nurseryHas(int given, int cells) {
        StringBuilder code = new StringBuilder(Check.repeat(OBJECT, cells / 3));
        for (int name = 0; name < cells % 3; name++) {
            code.append("DUP; NIL; SET ").append(name).append(";");
        }
        ProtoMachine m = Check.linked(given, 4000, code + "DUP; NIL; SET 9");
        m.run(2 * (cells / 3) + 3 * (cells % 3));
        Check.rooms("of a full nursery of " + given, m, cells, 0, cells / 3, 0, 0, 0, 0);
        m.run(3);
        Check.rooms("with a cell more than " + given, m, 0, cells + 1, 0, cells / 3, 0, 1, 0);
    }

    private static void greatRoomOfANewOne() {
        Check.of("Promise 1", "and a great room of so many (the nearest of 16 .. 4000).");
        int[][] givenAndDue = {{LEAST, 16}, {-1, 16}, {0, 16}, {8, 16}, {15, 16}, {16, 16}, {17, 17}, {200, 200},
            {3999, 3999}, {4000, 4000}, {4001, 4000}, {MOST, 4000}};
        for (int[] each : givenAndDue) {
            greatRoomHas(each[0], each[1]);
        }
    }

    private static void greatRoomHas(int given, int cells) {
        StringBuilder slots = new StringBuilder();
        for (int name = 0; name < cells % 3; name++) {
            slots.append("GLOBAL 0; NIL; SET ").append(name).append(";");
        }
        ProtoMachine m = Check.linked(8, given, Deep.parents(cells / 3, slots + "GLOBAL 0; NIL; SET 9"));
        Check.same("run in " + given, 0, m.run(Deep.stepsOfParents(cells / 3)));
        m.collectMinor();
        Check.same("to the last cell of " + given, 0, m.run(3 * (cells % 3)));
        Check.same("cells of a full one of " + given, cells, m.many(1));
        Check.same("MAJORS of " + given, 0, m.many(6));
        Check.same("a cell more than " + given, 8, m.run(3));
        Check.same("cells still of " + given, cells, m.many(1));
    }

    private static void asmCounts() {
        Check.of("Promise 2", "A word comes behind the code, which is not linked then"
            + " (what ran is no more: as by restart()): how many there are.");
        ProtoMachine m = new ProtoMachine(20, 60);
        Check.same("the first", 1, m.asm(1, 7, 0));
        Check.same("the second", 2, m.asm(32, 0, 0));
        Check.same("a wrong one, too", 3, m.asm(LEAST, MOST, LEAST));
        Check.same("words", 3, m.many(13));
        ProtoMachine ran = Check.ran(OBJECT + "DUP; KEEP 3; PRINT; PUSH 4; STORE 2; PUSH 6");
        Check.same("asm when it ran", 9, ran.asm(17, 3, 0));
        Check.same("not linked", BAD, ran.step());
        Check.same("no steps to tell", BAD, ran.restart());
        Check.same("no OUT", 0, ran.outSize());
        Check.same("no values", BAD, ran.pile(0, 0));
        Check.same("no objects", BAD, ran.object(1, 0));
        Check.same("link", 0, ran.link());
        Check.rooms("after asm and link", ran, 0, 0, 0, 0, 0, 0, 0, 0, 0, 0, 0, 0, 1, 9);
        Check.same("no local", 0, ran.local(2, 0));
        Check.same("the new word comes last", 1, ran.run(20000));
        Check.same("it brings the global", 2, ran.pile(0, 0));
        Check.same("values", 2, ran.many(11));
        Check.same("what a site remembers is gone", 0, hitsAfter("asm"));
    }

    /** More calls than the document speaks of, for 2000 words can't be laid with fewer. */
    private static void asmIsFull() {
        Check.of("Promise 2", "FULL: there are 2000.");
        ProtoMachine m = new ProtoMachine(20, 60);
        for (int i = 1; i <= 1998; i++) {
            m.asm(33, i % 2 == 0 ? 0 : 1, 0);
        }
        Check.same("1999", 1999, m.asm(33, 5, 0));
        Check.same("2000", 2000, m.asm(33, 5, 0));
        Check.same("2001", ProtoMachine.FULL, m.asm(99, 9, 9));
        Check.same("another", ProtoMachine.FULL, m.asm(0, 0, 0));
        Check.same("words", 2000, m.many(13));
        Check.same("wipe", 2000, m.wipe());
        Check.same("room again", 1, m.asm(0, 0, 0));
    }

    private static void wipeEmpties() {
        Check.of("Promise 3", "The code is empty; else as asm(): how many words it had.");
        ProtoMachine m = new ProtoMachine(200, 4000);
        Check.same("of none", 0, m.wipe());
        m.asm(33, 1, 0);
        Check.same("of one", 1, m.wipe());
        Check.same("words", 0, m.many(13));
        Check.same("once more", 0, m.wipe());
        Check.lay(m, "JUMP 1");
        Check.same("its label is gone", -10, m.link());
        m.wipe();
        String code = OBJECT + "DUP; DUP; PUSH 1; SET 1; GET 1; PRINT";
        Check.lay(m, code);
        m.link();
        m.run(20000);
        Check.same("of eight that ran", 8, m.wipe());
        Check.same("not linked", BAD, m.step());
        Check.same("no OUT", 0, m.outSize());
        Check.same("no values", BAD, m.pile(0, 0));
        Check.same("no objects", BAD, m.object(1, 0));
        Check.same("link of none", 0, m.link());
        Check.same("it halts behind none", 1, m.run(5));
        Check.same("wipe of a linked one without words", 0, m.wipe());
        Check.same("not linked then", BAD, m.run(0));
        Check.lay(m, code);
        Check.same("link of the same again", 0, m.link());
        m.run(20000);
        Check.same("serials begin anew", 1, m.pile(0, 1));
        Check.same("what a site remembers is gone", 0, hitsAfter("wipe"));
    }

    /** Runs a code with a site, does what is told, runs it again, and tells the hits. */
    private static int hitsAfter(String call) {
        String code = Check.grown(1) + "GLOBAL 0; GET 0";
        ProtoMachine m = Check.ran(code);
        Check.same("steps of the site before " + call, 1, m.many(8));
        switch (call) {
            case "asm" -> m.asm(2, 0, 0);
            case "wipe" -> {
                m.wipe();
                Check.lay(m, code);
            }
            case "restart" -> m.restart();
            default -> m.link();
        }
        Check.same("link after " + call, 0, call.equals("restart") ? 0 : m.link());
        Check.same("run after " + call, 1, m.run(20000));
        Check.same("steps of the site after " + call, 1, m.many(8));
        return m.many(7);
    }

    private static void linkBegins() {
        Check.of("Promise 4", "The code is LINKED: 0, and it stands at its first word, RUNNING, as by restart();");
        ProtoMachine m = laid(OBJECT + "DUP; KEEP 3; PRINT; PUSH 4; STORE 2; PUSH 6");
        Check.same("link", 0, m.link());
        Check.same("at the first word", 0, m.many(10));
        Check.same("running", 0, m.run(0));
        Check.same("a frame", 1, m.many(12));
        m.run(7);
        Check.same("link amid its run", 0, m.link());
        Check.same("nothing is left", 0, m.many(9) + m.many(10) + m.many(11) + m.many(2) + m.outSize());
        Check.same("to the end", 1, m.run(20000));
        Check.same("link at its end", 0, m.link());
        Check.same("running again", 0, m.run(0));
        Check.same("nothing is left of it", 0, m.many(9) + m.many(10) + m.many(11) + m.many(2) + m.outSize());
        Check.same("local 2", 0, m.local(2, 0));
        Check.same("object 1", BAD, m.object(1, 0));
        Check.same("what a site remembers is gone", 0, hitsAfter("link"));
        ProtoMachine bad = Check.ran("POP");
        Check.same("link at a bad end", 0, bad.link());
        Check.same("running after a bad end", 0, bad.run(0));
        Check.same("link of no word", 0, new ProtoMachine(8, 16).link());
    }

    /** More calls than the document speaks of, for the last word can't be laid with fewer. */
    private static void linkTellsTheWord() {
        Check.of("Promise 4", "-10 less the word (from 0) of its FAULT: it is not linked.");
        for (int word : new int[] {0, 1, 2, 50, 1998, 1999}) {
            ProtoMachine m = new ProtoMachine(20, 60);
            for (int i = 0; i < word; i++) {
                m.asm(2, 0, 0);
            }
            m.asm(35, 0, 0);
            Check.same("fault in word " + word, -10 - word, m.link());
            Check.same("step with it", BAD, m.step());
            Check.same("run with it", BAD, m.run(1));
            Check.same("steps with it", 0, m.many(9));
            Check.same("words with it", word + 1, m.many(13));
        }
        ProtoMachine linked = Check.ran("NIL");
        linked.asm(35, 0, 0);
        Check.same("a fault behind what was linked", -11, linked.link());
        Check.same("not linked", BAD, linked.restart());
    }

    private static void faultOfTheLatestLink() {
        Check.of("Promise 5", "The FAULT of the latest link() (1 .. 4); 0 without one, or before any.");
        ProtoMachine m = new ProtoMachine(20, 60);
        Check.same("before any", 0, m.fault());
        String[] codes = {"JUMP 1", "LABEL 1; LABEL 1", "NIL 1", "NIL"};
        int[] due = {4, 3, 2, 0};
        for (int i = 0; i < codes.length; i++) {
            Check.lay(m, codes[i]);
            Check.same("before the link of " + codes[i], i == 0 ? 0 : due[i - 1], m.fault());
            m.link();
            Check.same("of " + codes[i], due[i], m.fault());
            m.wipe();
            Check.same("wiped " + codes[i], due[i], m.fault());
        }
        m.asm(35, 0, 0);
        m.link();
        Check.same("no operation", 1, m.fault());
        m.wipe();
        m.link();
        Check.same("of no code", 0, m.fault());
        Check.lay(m, "POP");
        m.link();
        m.run(5);
        Check.same("a bad end is no fault", 0, m.fault());
    }

    private static void stepTells() {
        Check.of("Promise 6", "One step, if it is RUNNING: what it is then (0 .. 10).");
        for (int end = 0; end <= 10; end++) {
            ProtoMachine m = StepEdges.before(end);
            int steps = m.many(9);
            Check.same("running before " + end, 0, m.run(0));
            Check.same("step to " + end, end, m.step());
            Check.same("steps with " + end, end <= 1 ? steps + 1 : steps, m.many(9));
            int ended = m.many(9);
            Check.same("running after 0, no more after " + end, end, end == 0 ? m.run(0) : m.step());
            Check.same("steps still with " + end, ended, m.many(9));
        }
    }

    private static void stepNotLinked() {
        Check.of("Promise 6", "BAD: it is not linked.");
        ProtoMachine m = laid("NIL");
        Check.same("not linked", BAD, m.step());
        m.link();
        Check.same("linked", 0, m.step());
        m.asm(0, 0, 0);
        Check.same("a word more", BAD, m.step());
    }

    private static void runTells() {
        Check.of("Promise 7", "So many steps (0 .. 20000), as long as it is RUNNING: what it is then.");
        for (int n : new int[] {0, 1, 2, 19999, 20000}) {
            ProtoMachine m = Check.linked(20, 60, "LABEL 1; JUMP 1");
            Check.same("run(" + n + ")", 0, m.run(n));
            Check.same("its steps", n, m.many(9));
        }
        for (int n = 2; n <= 4; n++) {
            ProtoMachine m = Check.linked(20, 60, "NIL; NIL; HALT");
            Check.same("run(" + n + ") of three steps", n < 3 ? 0 : 1, m.run(n));
            Check.same("its steps", Math.min(n, 3), m.many(9));
        }
        for (int end = 1; end <= 10; end++) {
            ProtoMachine m = StepEdges.before(end);
            int steps = m.many(9);
            Check.same("run(0) before " + end, 0, m.run(0));
            Check.same("run(20000) to " + end, end, m.run(20000));
            Check.same("steps with " + end, end == 1 ? steps + 1 : steps, m.many(9));
            Check.same("run(0) after " + end, end, m.run(0));
            Check.same("run(1) after " + end, end, m.run(1));
        }
    }

    private static void runRefuses() {
        Check.of("Promise 7", "BAD: it is not linked, or n is none of these.");
        ProtoMachine m = laid("LABEL 1; JUMP 1");
        Check.same("run(0), not linked", BAD, m.run(0));
        Check.same("run(1), not linked", BAD, m.run(1));
        m.link();
        for (int n : new int[] {LEAST, -20000, -1, 20001, 20002, MOST}) {
            Check.same("run(" + n + ")", BAD, m.run(n));
        }
        Check.same("no step", 0, m.many(9));
        Check.same("run(0)", 0, m.run(0));
        Check.same("run(20000)", 0, m.run(20000));
        ProtoMachine ended = Check.ran("NIL");
        Check.same("run(-1) of an ended one", BAD, ended.run(-1));
        Check.same("run(20001) of an ended one", BAD, ended.run(20001));
    }

    private static void restartBegins() {
        Check.of("Promise 8", "Nothing on the pile, one frame, no objects (serials begin with 1 again), no globals,"
            + " PROTOS, nothing in OUT, nothing remembered or counted; it stands at the first word, RUNNING:"
            + " how many steps there had been.");
        String probes = "GLOBAL 15; PRINT; LOCAL 15; PRINT; NIL; HAS 1; PRINT; PUSH 1; HAS 1; PRINT; METHOD 1; HAS 1; PRINT;";
        String leaves = OBJECT + "KEEP 15; GLOBAL 15; STORE 15; GLOBAL 15; METHOD 1; SET 1; GLOBAL 15; PROTO 0;"
            + "GLOBAL 15; PROTO 1; GLOBAL 15; PROTO 3; NIL; GET 1; SELF; SEND 1 0; LABEL 1; ENTER 0 1; NIL; HALT";
        ProtoMachine m = Check.linked(200, 4000, probes + leaves);
        Check.same("of no steps", 0, m.restart());
        Check.same("run", 1, m.run(20000));
        m.collectMinor();
        m.collectMajor();
        int steps = m.many(9);
        Check.same("steps", 33, steps);
        Check.same("frames", 2, m.many(12));
        Check.same("sites", 2, m.many(8));
        Check.same("steps there had been", steps, m.restart());
        Check.rooms("after restart", m, 0, 0, 0, 0, 0, 0, 0, 0, 0, 0, 0, 0, 1);
        Check.same("running", 0, m.run(0));
        Check.same("the pile", BAD, m.pile(0, 0));
        Check.same("a local", 0, m.local(15, 0));
        Check.same("self", 0, m.local(16, 0));
        Check.same("an object", BAD, m.object(1, 0));
        Check.same("a slot", BAD, m.slot(1, 0, 0));
        Check.same("OUT", 0, m.outSize());
        Check.same("its first", BAD, m.out(0, 0));
        Check.same("once more", 0, m.restart());
        Check.same("run again", 1, m.run(20000));
        for (int i = 0; i < 5; i++) {
            Check.same("kind of probe " + i, i < 2 ? 0 : 1, m.out(i, 0));
            Check.same("probe " + i, 0, m.out(i, 1));
        }
        Check.same("what a site remembers is gone", 0, hitsAfter("restart"));
        Check.same("a serial", 0, m.object(1, 0));
        Check.same("no other", BAD, m.object(2, 0));
        ProtoMachine bad = Check.ran("NIL; POP; POP");
        Check.same("a bad step is none", 2, bad.restart());
        Check.same("running after a bad end", 0, bad.run(0));
        restartForgetsWhatWasCounted();
    }

    private static void restartForgetsWhatWasCounted() {
        ProtoMachine m = Check.linked(8, 30, Check.grown(1)
            + "LABEL 1; GLOBAL 0; GET 0; POP; NIL; NEW; DUP; NIL; SET 5; POP; JUMP 1");
        for (int round = 0; round < 3; round++) {
            m.run(6 + 1 + 10 * 20);
            Check.rooms("before restart " + round, m, 4, 4, 1, 1, 19, 10, 0, 19, 20);
            m.collectMajor();
            Check.same("MAJORS before restart " + round, 1, m.many(6));
            Check.same("freed before restart " + round, 20, m.many(4));
            Check.same("steps before restart " + round, 207, m.restart());
            Check.rooms("after restart " + round, m, 0, 0, 0, 0, 0, 0, 0, 0, 0, 0, 0, 0, 1);
        }
    }

    private static void restartNotLinked() {
        Check.of("Promise 8", "BAD: it is not linked.");
        ProtoMachine m = laid("NIL");
        Check.same("not linked", BAD, m.restart());
        m.link();
        Check.same("linked", 0, m.restart());
        m.run(1);
        m.asm(2, 0, 0);
        Check.same("a word more", BAD, m.restart());
        Check.same("it does not link", BAD, m.step());
    }

    private static void collectMinorTells() {
        Check.of("Promise 9", "MINOR: how many cells (sizes) became old.");
        ProtoMachine m = Check.linked(200, 4000, OBJECT + "POP;" + Check.grown(2) + Check.grown(40) + "NIL");
        Check.same("of none", 0, m.collectMinor());
        m.run(3);
        Check.same("of one that is lost", 0, m.collectMinor());
        Check.rooms("then", m, 0, 0, 0, 0, 1, 2, 0);
        m.run(3);
        Check.same("of one without slots", 3, m.collectMinor());
        m.run(6);
        Check.same("of one that is old", 0, m.collectMinor());
        m.run(3 + 3 * 40);
        Check.same("of one with 40 slots", 43, m.collectMinor());
        Check.rooms("at last", m, 0, 48, 0, 2, 1, 5, 0);
        Check.same("no step by these", 3 + 9 + 123, m.many(9));
    }

    private static void collectMinorWithoutRoom() {
        Check.of("Promise 9", "NO_ROOM: as told there.");
        for (int left = 1; left <= 4; left++) {
            ProtoMachine m = Check.linked(30, 15 + left, Check.repeat(OBJECT, 6));
            m.run(10);
            m.collectMinor();
            m.run(2);
            Check.same("3 cells into " + left, left < 3 ? NO_ROOM : 3, m.collectMinor());
            if (left < 3) {
                Check.rooms("nothing is done but a MAJOR, with " + left, m, 3, 15, 1, 5, 0, 1, 1);
            } else {
                Check.rooms("all is done, with " + left, m, 0, 18, 0, 6, 0, 2, 0);
            }
        }
        ProtoMachine full = Check.linked(30, 18, Check.repeat(OBJECT, 6));
        full.run(12);
        full.collectMinor();
        Check.same("none into none", 0, full.collectMinor());
    }

    private static void collectMinorNotLinked() {
        Check.of("Promise 9", "BAD: it is not linked.");
        ProtoMachine m = laid(OBJECT);
        Check.same("not linked", BAD, m.collectMinor());
        m.link();
        Check.same("linked", 0, m.collectMinor());
        m.run(2);
        m.asm(2, 0, 0);
        Check.same("a word more", BAD, m.collectMinor());
        Check.same("no MINOR", 0, m.many(5));
    }

    private static void collectMajorTells() {
        Check.of("Promise 10", "MAJOR: how many cells were FREED.");
        ProtoMachine m = Check.linked(200, 4000, OBJECT + "POP;" + Check.grown(40) + OBJECT + "KEEP 0; NIL; KEEP 0");
        Check.same("of none", 0, m.collectMajor());
        m.run(2);
        Check.same("of one that is held", 0, m.collectMajor());
        m.run(1);
        Check.same("of one that is lost", 3, m.collectMajor());
        m.run(3 + 120);
        m.collectMinor();
        m.run(3);
        Check.same("of an old one of 40 slots that is lost", 43, m.collectMajor());
        Check.rooms("then", m, 3, 0, 1, 0, 2, 1, 4);
        m.run(2);
        Check.same("of the last", 3, m.collectMajor());
        Check.same("of none again", 0, m.collectMajor());
        Check.rooms("at last", m, 0, 0, 0, 0, 3, 1, 6);
    }

    private static void collectMajorNotLinked() {
        Check.of("Promise 10", "BAD: it is not linked.");
        ProtoMachine m = laid(OBJECT);
        Check.same("not linked", BAD, m.collectMajor());
        m.link();
        Check.same("linked", 0, m.collectMajor());
        m.run(2);
        m.asm(2, 0, 0);
        Check.same("a word more", BAD, m.collectMajor());
        Check.same("no MAJOR", 0, m.many(6));
    }

    private static void manyObjects() {
        Check.of("Promise 11", "How many: what = 0 cells of young objects, 1 of old ones, 2 young objects, 3 old ones,"
            + " 4 objects FREED,");
        ProtoMachine m = Check.linked(60, 200, Check.grown(2) + OBJECT + OBJECT + "POP; GLOBAL 0; DROP 0");
        Check.rooms("at first", m, 0, 0, 0, 0, 0);
        m.run(2);
        Check.rooms("with one", m, 3, 0, 1, 0, 0);
        m.run(4);
        Check.rooms("with a slot", m, 4, 0, 1, 0, 0);
        m.run(3 + 4);
        Check.rooms("with three", m, 11, 0, 3, 0, 0);
        m.collectMinor();
        Check.rooms("all old", m, 0, 11, 0, 3, 0);
        m.run(1);
        m.collectMajor();
        Check.rooms("one freed", m, 0, 8, 0, 2, 1);
        m.run(2);
        Check.rooms("a slot less", m, 0, 7, 0, 2, 1);
    }

    private static void manyCollections() {
        Check.of("Promise 11", "5 MINORS (those that did all), 6 MAJORS,");
        ProtoMachine m = Check.linked(30, 16, Check.repeat(OBJECT, 6));
        Check.rooms("at first", m, 0, 0, 0, 0, 0, 0, 0);
        m.run(10);
        m.collectMinor();
        Check.rooms("a MINOR", m, 0, 15, 0, 5, 0, 1, 0);
        m.collectMajor();
        Check.rooms("a MAJOR that frees none", m, 0, 15, 0, 5, 0, 1, 1);
        m.run(2);
        m.collectMinor();
        Check.rooms("a MINOR without room has its MAJOR", m, 3, 15, 1, 5, 0, 1, 2);
        m.collectMinor();
        Check.rooms("another", m, 3, 15, 1, 5, 0, 1, 3);
    }

    private static void manySites() {
        Check.of("Promise 11", "7 HITS, 8 steps of sites that ended well,");
        ProtoMachine m = Check.linked(60, 200, Check.grown(1)
            + "LABEL 1; GLOBAL 0; GET 0; POP; GLOBAL 0; SEND 0 0; POP; GLOBAL 0; HAS 0; POP; JUMP 1");
        m.run(6 + 1);
        Check.rooms("at first", m, 4, 0, 1, 0, 0, 0, 0, 0, 0);
        m.run(2);
        Check.same("hits after GET", 0, m.many(7));
        Check.same("sites after GET", 1, m.many(8));
        m.run(3);
        Check.same("hits after SEND", 0, m.many(7));
        Check.same("sites after SEND", 2, m.many(8));
        m.run(3);
        Check.same("sites after HAS", 2, m.many(8));
        m.run(1 + 3);
        Check.same("hits after another GET", 1, m.many(7));
        Check.same("sites after another GET", 3, m.many(8));
        ProtoMachine bad = Check.ran(Check.grown(1) + "GLOBAL 0; GET 1");
        Check.same("a site that ended badly", 0, bad.many(8));
    }

    private static void manySteps() {
        Check.of("Promise 11", "9 steps (those that ended it badly do not count),");
        for (int end = 0; end <= 10; end++) {
            ProtoMachine m = StepEdges.before(end);
            int steps = m.many(9);
            m.step();
            Check.same("with " + end, steps + (end <= 1 ? 1 : 0), m.many(9));
        }
        ProtoMachine m = Check.linked(20, 60, "NIL; POP");
        Check.same("at first", 0, m.many(9));
        m.step();
        Check.same("one", 1, m.many(9));
        m.run(0);
        Check.same("none more", 1, m.many(9));
        m.run(5);
        Check.same("the one behind the last word is one", 3, m.many(9));
    }

    private static void manyWordAt() {
        Check.of("Promise 11", "10 the word at which it stands"
            + " (of a step that ended it: of HALT, RETURN, a wrong one that word itself),");
        ProtoMachine m = Check.linked(20, 60, "NIL; JUMP 1; NIL; LABEL 1; HALT");
        int[] due = {0, 1, 4, 4, 4};
        for (int i = 0; i < due.length; i++) {
            Check.same("after " + i + " steps", due[i], m.many(10));
            m.step();
        }
        Check.same("of RETURN", 1, Check.ran("NIL; RETURN; NIL").many(10));
        Check.same("of a wrong one", 2, Check.ran("NIL; POP; POP; NIL").many(10));
        Check.same("behind the last word", 2, Check.ran("NIL; POP").many(10));
        Check.same("behind no word", 0, Check.ran("").many(10));
        for (int end = 2; end <= 10; end++) {
            ProtoMachine bad = StepEdges.before(end);
            int at = bad.many(10);
            bad.step();
            Check.same("of a wrong one with " + end, at, bad.many(10));
        }
    }

    private static void manyValuesFramesWords() {
        Check.of("Promise 11", "11 values on the pile, 12 frames, 13 words.");
        ProtoMachine m = Check.linked(20, 60, OBJECT
            + "DUP; METHOD 1; SET 1; SEND 1 0; HALT; LABEL 1; ENTER 0 0; NIL; RETURN");
        int[] values = {0, 1, 1, 2, 3, 1, 0, 1, 1, 1};
        int[] frames = {1, 1, 1, 1, 1, 1, 2, 2, 1, 1};
        for (int i = 0; i < values.length; i++) {
            Check.same("values after " + i + " steps", values[i], m.many(11));
            Check.same("frames after " + i + " steps", frames[i], m.many(12));
            Check.same("words after " + i + " steps", 11, m.many(13));
            m.step();
        }
        Check.same("a full pile", 1000, Check.ran(Deep.pile(1000)).many(11));
        Check.same("all frames", 200, Check.ran(Deep.frames(200, "")).many(12));
        Check.same("no words", 0, new ProtoMachine(8, 16).many(13));
    }

    private static void manyRefuses() {
        Check.of("Promise 11", "BAD.");
        for (ProtoMachine m : new ProtoMachine[] {laid("NIL"), Check.ran("NIL")}) {
            for (int what : new int[] {LEAST, -2, -1, 14, 15, MOST}) {
                Check.same("many(" + what + ")", BAD, m.many(what));
            }
            Check.same("many(0)", 0, m.many(0));
            Check.same("many(13)", 1, m.many(13));
        }
    }

    private static void manyNotLinked() {
        Check.of("Promise 11", "(0 to 12: 0 when it is not linked.)");
        ProtoMachine never = laid("NIL; NIL");
        ProtoMachine ran = Check.ran(Check.grown(2) + "GLOBAL 0; GET 1; GLOBAL 0; SEND 0 0");
        ran.collectMinor();
        ran.collectMajor();
        int words = ran.asm(0, 0, 0);
        for (int what = 0; what <= 12; what++) {
            Check.same("many(" + what + ") of one never linked", 0, never.many(what));
            Check.same("many(" + what + ") of one that ran", 0, ran.many(what));
        }
        Check.same("many(13) of one never linked", 2, never.many(13));
        Check.same("many(13) of one that ran", words, ran.many(13));
    }

    private static void value(String of, int kind, int number, int gotKind, int gotNumber) {
        Check.same("kind of " + of, kind, gotKind);
        Check.same("number of " + of, number, gotNumber);
    }

    private static void pileTells() {
        Check.of("Promise 12", "Of the value that is k-th from above on the pile (from 0): its kind (what = 0),"
            + " the int, SERIAL or place (1; 0 of NIL).");
        ProtoMachine m = Check.ran("LABEL 1; METHOD 1; PUSH 1073741823; PUSH -1073741824; NIL; NEW; NIL");
        value("0", 0, 0, m.pile(0, 0), m.pile(0, 1));
        value("1", 2, 1, m.pile(1, 0), m.pile(1, 1));
        value("2", 1, -1073741824, m.pile(2, 0), m.pile(2, 1));
        value("3", 1, 1073741823, m.pile(3, 0), m.pile(3, 1));
        value("4", 3, 1, m.pile(4, 0), m.pile(4, 1));
        ProtoMachine full = Check.ran(Deep.pile(1000));
        value("999", 1, 5, full.pile(999, 0), full.pile(999, 1));
        value("998", 1, 5, full.pile(998, 0), full.pile(998, 1));
        ProtoMachine called = Check.ran("PUSH 8; PUSH 9;" + OBJECT
            + "DUP; METHOD 1; SET 1; SEND 1 0; LABEL 1; ENTER 0 0; HALT");
        value("what lies below the frame", 1, 8, called.pile(1, 0), called.pile(1, 1));
    }

    private static void pileRefuses() {
        Check.of("Promise 12", "BAD.");
        ProtoMachine empty = Check.ran("");
        Check.same("an empty pile", BAD, empty.pile(0, 0));
        ProtoMachine m = Check.ran("PUSH 7; PUSH 8");
        for (int k : new int[] {LEAST, -1, 2, 3, MOST}) {
            Check.same("value " + k, BAD, m.pile(k, 0));
            Check.same("number of value " + k, BAD, m.pile(k, 1));
        }
        for (int what : new int[] {LEAST, -1, 2, MOST}) {
            Check.same("what " + what, BAD, m.pile(0, what));
        }
        Check.same("value 1", 7, m.pile(1, 1));
        Check.same("below a full pile", BAD, Check.ran(Deep.pile(1000)).pile(1000, 0));
        m.asm(0, 0, 0);
        Check.same("not linked", BAD, m.pile(0, 0));
    }

    private static final String CALL = OBJECT
        + "DUP; METHOD 1; SET 1; PUSH 3; PUSH -4; SEND 1 2; HALT; LABEL 1; ENTER 2 1; HALT";

    private static void localTells() {
        Check.of("Promise 13", "Likewise of a local of the uppermost frame; 16 is its self.");
        ProtoMachine m = Check.ran("PUSH 6; STORE 0; NIL; NEW; STORE 15; METHOD 1; STORE 14; LABEL 1");
        value("0", 1, 6, m.local(0, 0), m.local(0, 1));
        value("1", 0, 0, m.local(1, 0), m.local(1, 1));
        value("14", 3, 8, m.local(14, 0), m.local(14, 1));
        value("15", 2, 1, m.local(15, 0), m.local(15, 1));
        value("self", 0, 0, m.local(16, 0), m.local(16, 1));
        ProtoMachine called = Check.ran("PUSH 6; STORE 0;" + CALL);
        value("0 in a call", 1, 3, called.local(0, 0), called.local(0, 1));
        value("1 in a call", 1, -4, called.local(1, 0), called.local(1, 1));
        value("2 in a call", 0, 0, called.local(2, 0), called.local(2, 1));
        value("self in a call", 2, 1, called.local(16, 0), called.local(16, 1));
    }

    private static void localRefuses() {
        Check.of("Promise 13", "BAD.");
        ProtoMachine m = Check.ran("NIL");
        for (int k : new int[] {LEAST, -1, 17, 18, MOST}) {
            Check.same("local " + k, BAD, m.local(k, 0));
            Check.same("number of local " + k, BAD, m.local(k, 1));
        }
        for (int what : new int[] {LEAST, -1, 2, MOST}) {
            Check.same("what " + what, BAD, m.local(0, what));
            Check.same("self, what " + what, BAD, m.local(16, what));
        }
        ProtoMachine called = Check.ran(CALL);
        Check.same("the last that the frame has", 0, called.local(2, 0));
        Check.same("one that it has not", BAD, called.local(3, 0));
        Check.same("nor the last of all", BAD, called.local(15, 0));
        Check.same("its self", 2, called.local(16, 0));
        m.asm(0, 0, 0);
        Check.same("not linked", BAD, m.local(0, 0));
    }

    private static void objectTellsWhere() {
        Check.of("Promise 14", "Of an object by its SERIAL: what = 0 where it is: 0 young, 1 old, 2 FREED;");
        ProtoMachine m = Check.linked(60, 200, OBJECT + OBJECT + "POP; NIL; KEEP 0; POP; NIL");
        Check.same("not made yet", BAD, m.object(1, 0));
        m.run(2);
        Check.same("young", 0, m.object(1, 0));
        Check.same("the next is not made yet", BAD, m.object(2, 0));
        m.run(3);
        m.collectMinor();
        Check.same("old", 1, m.object(1, 0));
        Check.same("freed when young", 2, m.object(2, 0));
        m.run(3);
        Check.same("lost, but old still", 1, m.object(1, 0));
        m.collectMajor();
        Check.same("freed when old", 2, m.object(1, 0));
        Check.same("never made", BAD, m.object(3, 0));
    }

    private static void objectTellsSizes() {
        Check.of("Promise 14", "of one that is not FREED: its SIZE (1), how many slots (2),"
            + " its parent's SERIAL (3; 0 for NIL),");
        ProtoMachine m = Check.linked(60, 200, Check.grown(40) + "GLOBAL 0; NEW; DUP; NIL; SET 0; NIL");
        m.run(2);
        sizes("at first", m, 1, 3, 0, 0);
        m.run(4);
        sizes("with a slot", m, 1, 4, 1, 0);
        m.run(117);
        sizes("with 40", m, 1, 43, 40, 0);
        m.run(2);
        sizes("a child", m, 2, 3, 0, 1);
        m.collectMinor();
        m.run(3);
        sizes("an old child with a slot", m, 2, 4, 1, 1);
        ProtoMachine freed = Check.ran(OBJECT + "POP");
        freed.collectMajor();
        for (int what = 1; what <= 4; what++) {
            Check.same("of a freed one, what " + what, BAD, freed.object(1, what));
        }
    }

    private static void sizes(String of, ProtoMachine m, int serial, int size, int slots, int parent) {
        Check.same("size " + of, size, m.object(serial, 1));
        Check.same("slots " + of, slots, m.object(serial, 2));
        Check.same("parent " + of, parent, m.object(serial, 3));
    }

    private static void objectTellsChange() {
        Check.of("Promise 14", "the step (from 1 on) at which it CHANGED SHAPE last (4; 0 never).");
        ProtoMachine m = Check.ran(OBJECT + "DUP; CLONE");
        Check.same("never", 0, m.object(1, 4));
        Check.same("a copy, never", 0, m.object(2, 4));
        Check.same("the fifth step", 5, Check.ran(OBJECT + "DUP; NIL; SET 1; NIL").object(1, 4));
        Check.same("the last of two", 8, Check.ran(OBJECT + "DUP; NIL; SET 1; DUP; NIL; SET 2; NIL").object(1, 4));
        Check.same("a value is none", 5, Check.ran(OBJECT + "DUP; NIL; SET 1; DUP; NIL; SET 1; NIL").object(1, 4));
        Check.same("a copy of a changed one, never", 0, Check.ran(OBJECT + "DUP; NIL; SET 1; CLONE").object(2, 4));
        ProtoMachine freed = Check.linked(20, 60, OBJECT + "DUP; NIL; SET 1; POP; NIL; NEW");
        freed.run(6);
        freed.collectMajor();
        freed.run(2);
        Check.same("one made in the room of a changed one, never", 0, freed.object(2, 4));
        ProtoMachine again = Check.ran(OBJECT + "DUP; NIL; SET 1");
        again.restart();
        again.run(5);
        Check.same("steps begin again", 5, again.object(1, 4));
    }

    private static void objectRefuses() {
        Check.of("Promise 14", "BAD: no such one, or what.");
        ProtoMachine m = Check.ran(OBJECT + OBJECT);
        for (int serial : new int[] {LEAST, -1, 0, 3, 4, MOST}) {
            for (int what = 0; what <= 4; what++) {
                Check.same("object " + serial + ", what " + what, BAD, m.object(serial, what));
            }
        }
        for (int what : new int[] {LEAST, -1, 5, 6, MOST}) {
            Check.same("what " + what, BAD, m.object(1, what));
        }
        Check.same("the first", 0, m.object(1, 0));
        Check.same("the last", 0, m.object(2, 0));
        ProtoMachine freed = Check.ran(OBJECT + "POP");
        freed.collectMajor();
        for (int what : new int[] {LEAST, -1, 5, MOST}) {
            Check.same("of a freed one, what " + what, BAD, freed.object(1, what));
        }
        m.asm(0, 0, 0);
        Check.same("not linked", BAD, m.object(1, 0));
    }

    private static void slotTells() {
        Check.of("Promise 15", "Of slot k (from 0, in order) of an object that is not FREED: its name (what = 0),"
            + " kind (1), int, SERIAL or place (2; 0 of NIL).");
        ProtoMachine m = Check.ran(OBJECT
            + "DUP; PUSH -4; SET 63; DUP; NIL; SET 0; DUP; DUP; SET 7; DUP; METHOD 1; SET 8; LABEL 1");
        int[][] due = {{63, 1, -4}, {0, 0, 0}, {7, 2, 1}, {8, 3, 15}};
        for (int k = 0; k < due.length; k++) {
            for (int what = 0; what <= 2; what++) {
                Check.same("slot " + k + ", what " + what, due[k][what], m.slot(1, k, what));
            }
        }
        m.collectMinor();
        Check.same("of an old one", 63, m.slot(1, 0, 0));
        ProtoMachine full = Check.ran(Check.grown(40));
        Check.same("the last name", 39, full.slot(1, 39, 0));
        Check.same("the last number", 39, full.slot(1, 39, 2));
    }

    private static void slotRefuses() {
        Check.of("Promise 15", "BAD.");
        ProtoMachine m = Check.ran(Check.grown(2) + OBJECT + OBJECT + "POP");
        for (int k : new int[] {LEAST, -1, 2, 3, MOST}) {
            for (int what = 0; what <= 2; what++) {
                Check.same("slot " + k + ", what " + what, BAD, m.slot(1, k, what));
            }
        }
        for (int what : new int[] {LEAST, -1, 3, MOST}) {
            Check.same("what " + what, BAD, m.slot(1, 0, what));
        }
        for (int serial : new int[] {LEAST, -1, 0, 4, MOST}) {
            Check.same("object " + serial, BAD, m.slot(serial, 0, 0));
        }
        Check.same("the last slot", 1, m.slot(1, 1, 0));
        Check.same("of one without slots", BAD, m.slot(2, 0, 0));
        Check.same("of a full one", BAD, Check.ran(Check.grown(40)).slot(1, 40, 0));
        ProtoMachine freed = Check.ran(Check.grown(2) + "NIL; KEEP 0");
        Check.same("not freed yet", 0, freed.slot(1, 0, 0));
        freed.collectMajor();
        for (int what = 0; what <= 2; what++) {
            Check.same("freed, what " + what, BAD, freed.slot(1, 0, what));
        }
        m.asm(0, 0, 0);
        Check.same("not linked", BAD, m.slot(1, 0, 0));
    }

    /** Prints 0, 1, 2, .. : the value n is printed by step 6 + 7 * n. */
    private static ProtoMachine printing() {
        return Check.linked(20, 60, "PUSH 0; KEEP 0; LABEL 1; GLOBAL 0; DUP; PRINT; PUSH 1; ADD; KEEP 0; JUMP 1");
    }

    private static void outSizeTells() {
        Check.of("Promise 16", "How many values OUT has (the first 1000 stay; those behind count, but are lost).");
        ProtoMachine m = printing();
        Check.same("none", 0, m.outSize());
        m.run(6);
        Check.same("one", 1, m.outSize());
        m.run(7 * 998);
        Check.same("999", 999, m.outSize());
        Check.same("the 1000th is not there", BAD, m.out(999, 1));
        m.run(7);
        Check.same("1000", 1000, m.outSize());
        Check.same("the 1000th stays", 999, m.out(999, 1));
        m.run(7);
        Check.same("1001", 1001, m.outSize());
        Check.same("the 1001st is lost", BAD, m.out(1000, 1));
        Check.same("the 1000th still stays", 999, m.out(999, 1));
        Check.same("the first stays", 0, m.out(0, 1));
        m.run(7 * 999);
        Check.same("2000", 2000, m.outSize());
        Check.same("the 1000th at last", 999, m.out(999, 1));
        Check.same("the 2000th is lost", BAD, m.out(1999, 1));
        m.asm(0, 0, 0);
        Check.same("not linked", 0, m.outSize());
    }

    private static void outTells() {
        Check.of("Promise 17", "Of value i of OUT: its kind (what = 0), int, SERIAL or place (1; 0 of NIL).");
        ProtoMachine m = Check.ran("NIL; PRINT; PUSH -5; PRINT; NIL; NEW; PRINT; METHOD 1; PRINT; LABEL 1");
        value("0", 0, 0, m.out(0, 0), m.out(0, 1));
        value("1", 1, -5, m.out(1, 0), m.out(1, 1));
        value("2", 2, 1, m.out(2, 0), m.out(2, 1));
        value("3", 3, 10, m.out(3, 0), m.out(3, 1));
        m.collectMajor();
        value("2, freed", 2, 1, m.out(2, 0), m.out(2, 1));
    }

    private static void outRefuses() {
        Check.of("Promise 17", "BAD.");
        Check.same("none", BAD, Check.ran("NIL").out(0, 0));
        ProtoMachine m = Check.ran("PUSH 7; PRINT; PUSH 8; PRINT");
        for (int i : new int[] {LEAST, -1, 2, 3, 999, 1000, MOST}) {
            Check.same("value " + i, BAD, m.out(i, 0));
            Check.same("number of value " + i, BAD, m.out(i, 1));
        }
        for (int what : new int[] {LEAST, -1, 2, MOST}) {
            Check.same("what " + what, BAD, m.out(0, what));
        }
        Check.same("the last", 8, m.out(1, 1));
        m.asm(0, 0, 0);
        Check.same("not linked", BAD, m.out(0, 0));
    }
}
