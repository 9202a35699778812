/** Terms: SITES, a test for each sentence. */
final class SiteEdges {
    private static final String HIT = "It is a HIT, when the site remembers the same from its step before,"
        + " and since that no object of the chain, but the value itself, CHANGED SHAPE.";

    private SiteEdges() {
    }

    static void all() {
        placesOfTheirOwn();
        endsWell();
        remembersShapes();
        remembersTheVeryParent();
        remembersKinds();
        firstStepIsNone();
        onlyTheStepBefore();
        changesSince();
        changesNextToTheStep();
        changesOfTheValueItself();
        changesFarAway();
    }

    private static void placesOfTheirOwn() {
        Check.of("Terms", "SITES are words GET and SEND, as places.");
        ProtoMachine m = Check.ran(Rounds.FAMILY + Check.repeat("GLOBAL 1; GET 1; POP; GLOBAL 1; SEND 1 0; POP", 3));
        Check.same("six places, six steps", 6, m.many(8));
        Check.same("no hit", 0, m.many(7));
        ProtoMachine others = Check.ran(Rounds.FAMILY
            + "GLOBAL 1; HAS 1; GLOBAL 1; PARENT; GLOBAL 1; PUSH 1; SET 1; GLOBAL 1; DROP 1; GLOBAL 1; CLONE");
        Check.same("end", 1, others.step());
        Check.same("others are no sites", 0, others.many(8));
        ProtoMachine loop = Check.linked(60, 200, Rounds.FAMILY
            + "LABEL 1; GLOBAL 1; GET 1; POP; GLOBAL 1; SEND 1 0; POP; JUMP 1");
        loop.run(loop.many(13) + 6);
        Check.same("each place twice", 4, loop.many(8));
        Check.same("a hit each", 2, loop.many(7));
    }

    private static void endsWell() {
        Check.of("Terms", "A step of such one that ends well REMEMBERS what it took (of SEND the receiver):");
        String[] bad = {"GLOBAL 1; GET 9", "GLOBAL 1; SEND 9 0", "GLOBAL 1; NIL; SEND 1 1", "GET 1", "PUSH 1; GET 1",
            "GLOBAL 1; METHOD 1; SET 9; GLOBAL 1; SEND 9 0; LABEL 1"};
        for (String words : bad) {
            ProtoMachine m = Check.ran(Rounds.FAMILY + words);
            Check.holds("bad: " + words, m.step() > 1);
            Check.same("no step of a site: " + words, 0, m.many(8));
        }
        Check.same("another value sent", 1, hitsOfSends("NIL; KEEP 6"));
        Check.same("another receiver of that shape", 1, hitsOfSends("GLOBAL 2; KEEP 5"));
        Check.same("another receiver", 0, hitsOfSends("GLOBAL 0; KEEP 5"));
        Check.same("both exchanged", 0, hitsOfSends("GLOBAL 0; KEEP 5; GLOBAL 1; KEEP 6"));
    }

    /** Sends global 6, at first a parent, to global 5, at first a child, twice at one place, with words between. */
    private static int hitsOfSends(String between) {
        ProtoMachine m = Check.linked(200, 4000, Rounds.FAMILY + "GLOBAL 0; METHOD 9; SET 9;"
            + "GLOBAL 1; KEEP 5; GLOBAL 0; KEEP 6; PUSH 0; KEEP 7;"
            + "LABEL 1; GLOBAL 5; GLOBAL 6; SEND 9 1; POP; GLOBAL 7; UNLESS 2; HALT;"
            + "LABEL 2; PUSH 1; KEEP 7; " + between + "; JUMP 1; LABEL 9; ENTER 1 0; LOCAL 0; RETURN");
        Check.same("end with " + between, 1, m.run(1000));
        Check.same("sends with " + between, 2, m.many(8));
        return m.many(7);
    }

    private static void remembersShapes() {
        Check.of("Terms", "an object's SHAPE,");
        Rounds.hits("the very object", 1, "GLOBAL 1", "GLOBAL 1");
        Rounds.hits("another of its shape", 1, "GLOBAL 1", "GLOBAL 2");
        Rounds.hits("another value", 1, "GLOBAL 1", "GLOBAL 1; NIL; SET 2; GLOBAL 1");
        Rounds.hits("one name more", 0, "GLOBAL 1", "GLOBAL 2; NIL; SET 3; GLOBAL 2");
        Rounds.hits("one name less", 0, "GLOBAL 1", "GLOBAL 2; DROP 2; GLOBAL 2");
        Rounds.hits("another name", 0, "GLOBAL 1", "GLOBAL 2; DROP 2; GLOBAL 2; NIL; SET 3; GLOBAL 2");
        Rounds.hits("another parent", 0, "GLOBAL 1", "GLOBAL 2; GLOBAL 3; ADOPT; GLOBAL 2");
        String full = names(0, 40);
        Rounds.hits("40 names", 1, "NIL; NEW;" + full, "NIL; NEW;" + full);
        Rounds.hits("another 40th name", 0, "NIL; NEW;" + full, "NIL; NEW;" + names(0, 39) + "DUP; NIL; SET 63");
        Rounds.hits("39 of 40 names", 0, "NIL; NEW;" + full, "NIL; NEW;" + names(0, 39));
        Rounds.hits("40 of 39 names", 0, "NIL; NEW;" + names(0, 39), "NIL; NEW;" + full);
    }

    /** Each round has a new parent, a copy that never changed, and its child at the site, twice; then both are freed. */
    private static void remembersTheVeryParent() {
        Check.of("Terms", "an object's SHAPE,");
        ProtoMachine m = Check.linked(60, 200, "NIL; NEW; DUP; PUSH 5; SET 1; KEEP 2;"
            + "JUMP 1; LABEL 1; GLOBAL 2; CLONE; NEW; KEEP 0; PUSH 2; KEEP 1;"
            + "LABEL 2; GLOBAL 0; GET 1; POP; GLOBAL 1; PUSH 1; SUB; DUP; KEEP 1; UNLESS 3; JUMP 2;"
            + "LABEL 3; NIL; KEEP 0; JUMP 1");
        m.run(6);
        for (int round = 1; round <= 4; round++) {
            m.run(1 + 6 + 1 + 9 + 1 + 9);
            Check.same("the parent of round " + round, 2 * round, m.object(2 * round + 1, 3));
            m.run(2);
            Check.same("freed in round " + round, 7, m.collectMajor());
            Check.same("steps of the site in round " + round, 2 * round, m.many(8));
            Check.same("only the second is a hit, in round " + round, round, m.many(7));
        }
    }

    private static String names(int from, int to) {
        StringBuilder code = new StringBuilder();
        for (int name = from; name < to; name++) {
            code.append("DUP; NIL; SET ").append(name).append(";");
        }
        return code.toString();
    }

    private static void remembersKinds() {
        Check.of("Terms", "or the kind of another value and its PROTO.");
        String[] values = {"NIL", "PUSH 4", "", "METHOD 1"};
        int[] kinds = {0, 1, 3};
        for (int kind : kinds) {
            String proto = "GLOBAL 0; PROTO " + kind + "; ";
            Rounds.hits("kind " + kind, 1, proto + values[kind], values[kind]);
            Rounds.hits("its PROTO once more, kind " + kind, 1, proto + values[kind], proto + values[kind]);
            Rounds.hits("another PROTO, kind " + kind, 0, proto + values[kind], "GLOBAL 3; PROTO " + kind + "; "
                + values[kind]);
            Rounds.hits("another PROTO and back, kind " + kind, 1, proto + values[kind],
                "GLOBAL 3; PROTO " + kind + "; " + proto + values[kind]);
            Rounds.hits("a child of its PROTO, kind " + kind, 0, proto + values[kind], "GLOBAL 0; NEW");
            Rounds.hits("its PROTO itself, kind " + kind, 0, proto + values[kind], "GLOBAL 0");
            for (int other : kinds) {
                if (other != kind) {
                    Rounds.hits("kinds " + kind + " and " + other, 0, proto + values[kind],
                        "GLOBAL 0; PROTO " + other + "; " + values[other]);
                }
            }
        }
        Rounds.hits("other ints", 2, "GLOBAL 0; PROTO 1; PUSH 0", "PUSH -1073741824", "PUSH 1073741823");
        Rounds.hits("other places", 1, "GLOBAL 0; PROTO 3; METHOD 1", "METHOD 100");
    }

    private static void firstStepIsNone() {
        Check.of("Terms", HIT);
        Rounds.hits("an object without a parent, first", 0, "GLOBAL 0");
        Rounds.hits("an object, first", 0, "GLOBAL 1");
        Rounds.hits("NIL, first", 0, "GLOBAL 0; PROTO 0; NIL");
        Rounds.hits("twice", 1, "GLOBAL 1", "GLOBAL 1");
        Rounds.hits("three times", 2, "GLOBAL 1", "GLOBAL 1", "GLOBAL 1");
        ProtoMachine m = Check.ran(Check.grown(1) + "GLOBAL 0; GET 0");
        m.restart();
        m.run(100);
        Check.same("first again after restart", 0, m.many(7));
    }

    private static void onlyTheStepBefore() {
        Check.of("Terms", HIT);
        Rounds.hits("another between", 0, "GLOBAL 1", "GLOBAL 0", "GLOBAL 1");
        Rounds.hits("another between, then twice", 1, "GLOBAL 1", "GLOBAL 0", "GLOBAL 1", "GLOBAL 2");
        Rounds.hits("an int between", 0, "GLOBAL 0; PROTO 1; GLOBAL 1", "PUSH 3", "GLOBAL 1");
    }

    private static void changesSince() {
        Check.of("Terms", HIT);
        Rounds.hits("a change before the first step", 1, "GLOBAL 0; NIL; SET 7; GLOBAL 1", "GLOBAL 1");
        Rounds.hits("a change between", 0, "GLOBAL 1", "GLOBAL 0; NIL; SET 7; GLOBAL 1");
        Rounds.hits("a change between, then none", 1, "GLOBAL 1", "GLOBAL 0; NIL; SET 7; GLOBAL 1", "GLOBAL 1");
        Rounds.hits("a slot of the parent goes", 0, "GLOBAL 0; NIL; SET 7; GLOBAL 1", "GLOBAL 0; DROP 7; GLOBAL 1");
        Rounds.hits("a slot comes and goes", 0, "GLOBAL 1", "GLOBAL 0; NIL; SET 7; GLOBAL 0; DROP 7; GLOBAL 1");
        Rounds.hits("the parent's parent becomes another", 0, "GLOBAL 1", "GLOBAL 0; GLOBAL 3; ADOPT; GLOBAL 1");
        Rounds.hits("the parent's parent stays NIL", 1, "GLOBAL 1", "GLOBAL 0; NIL; ADOPT; GLOBAL 1");
        Rounds.hits("a value of the parent", 1, "GLOBAL 1", "GLOBAL 0; NIL; SET 1; GLOBAL 1");
        Rounds.hits("a change of PROTO of the kind", 0, "GLOBAL 0; PROTO 1; PUSH 1", "GLOBAL 0; NIL; SET 7; PUSH 1");
        Rounds.hits("a value of PROTO of the kind", 1, "GLOBAL 0; PROTO 1; PUSH 1", "GLOBAL 0; NIL; SET 1; PUSH 1");
    }

    /** In each round the slot comes with the step that is next to the site's; in a later one it only has a value. */
    private static void changesNextToTheStep() {
        Check.of("Terms", HIT);
        ProtoMachine before = Check.linked(60, 200, Rounds.FAMILY
            + "JUMP 1; LABEL 1; GLOBAL 1; GLOBAL 0; NIL; SET 7; GET 1; POP; JUMP 1");
        before.run(before.many(13) - 8 + 6);
        Check.same("the step before, at first", 0, before.many(7));
        before.run(7);
        Check.same("the step before is not since", 1, before.many(7));
        ProtoMachine behind = Check.linked(60, 200, Rounds.FAMILY
            + "JUMP 1; LABEL 1; GLOBAL 0; GLOBAL 1; GET 1; SET 7; JUMP 1");
        behind.run(behind.many(13) - 6 + 4);
        Check.same("the step behind, at first", 0, behind.many(7));
        behind.run(4);
        Check.same("the step behind is since", 0, behind.many(7));
        Check.same("steps of the site", 2, behind.many(8));
        behind.run(5);
        Check.same("and then no more", 1, behind.many(7));
    }

    private static void changesOfTheValueItself() {
        Check.of("Terms", HIT);
        Rounds.hits("a slot that came and went", 1, "GLOBAL 1", "GLOBAL 1; NIL; SET 7; GLOBAL 1; DROP 7; GLOBAL 1");
        Rounds.hits("a slot that came", 0, "GLOBAL 1", "GLOBAL 1; NIL; SET 7; GLOBAL 1");
        Rounds.hits("a parent that came and went", 1, "GLOBAL 1",
            "GLOBAL 1; GLOBAL 3; ADOPT; GLOBAL 1; GLOBAL 0; ADOPT; GLOBAL 1");
        Rounds.hits("another, made to its shape since", 1, "GLOBAL 1", "GLOBAL 0; NEW; DUP; NIL; SET 2");
        Rounds.hits("a value without a parent", 1, "GLOBAL 0", "GLOBAL 0; NIL; SET 7; GLOBAL 0; DROP 7; GLOBAL 0");
    }

    private static void changesFarAway() {
        Check.of("Terms", HIT);
        String far = "GLOBAL 0; NIL; NEW; DUP; KEEP 4; ADOPT; GLOBAL 4; NIL; NEW; DUP; KEEP 5; ADOPT; GLOBAL 1";
        Rounds.hits("behind the one that has the name", 0, far, "GLOBAL 4; NIL; SET 7; GLOBAL 1");
        Rounds.hits("at the end of the chain", 0, far, "GLOBAL 5; NIL; SET 7; GLOBAL 1");
        Rounds.hits("nothing in all the chain", 1, far, "GLOBAL 1");
        Rounds.hits("one beside the chain", 1, far, "GLOBAL 3; NIL; SET 7; GLOBAL 2; NIL; SET 7; GLOBAL 1");
        Rounds.hits("a child of it", 1, far, "GLOBAL 1; NEW; NIL; SET 7; GLOBAL 1");
        Rounds.hits("its value", 1, "GLOBAL 1; GLOBAL 3; SET 2; GLOBAL 1", "GLOBAL 3; NIL; SET 7; GLOBAL 1");
    }
}
