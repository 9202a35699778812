/** Sites: what GET and SEND remember, and what is a HIT (promise 11, 7 and 8). */
public final class SitesTest {
    private static final String OBJECT = "NIL; NEW;";
    // Global 0 is a parent with slot 1, globals 1 and 2 are children of one shape, 3 has another parent.
    private static final String FAMILY = OBJECT + "KEEP 0; GLOBAL 0; PUSH 5; SET 1; GLOBAL 0; NEW; KEEP 1;"
        + "GLOBAL 1; PUSH 1; SET 2; GLOBAL 1; CLONE; KEEP 2; GLOBAL 0; CLONE; KEEP 3;";

    public static void main(String[] args) {
        sameShape();
        changesOfTheChain();
        changesOfTheValue();
        otherKinds();
        sends();
        badStepsAreForgotten();
        freedParents();
        Check.end("SitesTest");
    }

    /** Takes each global told to one GET, with words between; tells hits and steps of sites. */
    private static void hits(String of, int due, String... between) {
        StringBuilder code = new StringBuilder(FAMILY + "JUMP 1;");
        StringBuilder rounds = new StringBuilder("LABEL 1;");
        for (int i = 0; i < between.length; i++) {
            rounds.append(between[i]).append("; PUSH ").append(i).append("; STORE 0; JUMP 100;")
                .append("LABEL ").append(i + 2).append(";");
        }
        rounds.append("HALT; LABEL 100; GET 1; POP;");
        for (int i = 0; i < between.length; i++) {
            rounds.append("LOCAL 0; PUSH ").append(i).append("; EQUAL; UNLESS ").append(101 + i)
                .append("; JUMP ").append(i + 2).append("; LABEL ").append(101 + i).append(";");
        }
        ProtoMachine m = Check.linked(200, 4000, code.append(rounds).toString());
        Check.same("end of " + of, 1, m.run(20000));
        Check.same("hits of " + of, due, m.many(7));
        Check.same("steps of sites of " + of, between.length, m.many(8));
    }

    private static void sameShape() {
        hits("one object", 1, "GLOBAL 1", "GLOBAL 1");
        hits("three times", 2, "GLOBAL 1", "GLOBAL 1", "GLOBAL 1");
        hits("one shape", 1, "GLOBAL 1", "GLOBAL 2");
        hits("the parent and a child", 0, "GLOBAL 0", "GLOBAL 1");
        hits("there and back: only the last is remembered", 0, "GLOBAL 1", "GLOBAL 0", "GLOBAL 1");
        hits("equal shapes without parents", 1, "GLOBAL 0", "GLOBAL 3");
        hits("another value in a slot", 1, "GLOBAL 1", "GLOBAL 1; PUSH 9; SET 2; GLOBAL 1");
        hits("equal names, another parent", 0, "GLOBAL 1", "GLOBAL 3; NEW; DUP; PUSH 1; SET 2");
        hits("a new one of the same shape", 1, "GLOBAL 1", "GLOBAL 0; NEW; DUP; PUSH 1; SET 2");
        hits("names in another order", 0, "GLOBAL 1; PUSH 1; SET 3; GLOBAL 1",
            "GLOBAL 0; NEW; DUP; PUSH 1; SET 3; DUP; PUSH 1; SET 2");
        hits("another first name", 0, "GLOBAL 1; PUSH 1; SET 3; GLOBAL 1",
            "GLOBAL 0; NEW; DUP; PUSH 1; SET 4; DUP; PUSH 1; SET 3");
        hits("another last name", 0, "GLOBAL 1; PUSH 1; SET 3; GLOBAL 1", "GLOBAL 2; PUSH 1; SET 4; GLOBAL 2");
        hits("fewer names", 0, "GLOBAL 1; PUSH 1; SET 3; GLOBAL 1", "GLOBAL 2");
        hits("more names", 0, "GLOBAL 1", "GLOBAL 2; PUSH 1; SET 3; GLOBAL 2");
    }

    private static void changesOfTheChain() {
        hits("the parent got a slot", 0, "GLOBAL 1", "GLOBAL 0; PUSH 1; SET 7; GLOBAL 1");
        hits("the parent got it before", 1, "GLOBAL 0; PUSH 1; SET 7; GLOBAL 1", "GLOBAL 1");
        hits("the parent's slot got a value", 1, "GLOBAL 1", "GLOBAL 0; PUSH 1; SET 1; GLOBAL 1");
        hits("a slot came and went", 0, "GLOBAL 1", "GLOBAL 0; PUSH 1; SET 7; GLOBAL 0; DROP 7; GLOBAL 1");
        hits("the parent got a parent", 0, "GLOBAL 1", "GLOBAL 0; NIL; NEW; ADOPT; GLOBAL 1");
        hits("the parent got the same parent", 1, "GLOBAL 1", "GLOBAL 0; NIL; ADOPT; GLOBAL 1");
        hits("behind the one that has it", 0, "GLOBAL 0; NIL; NEW; DUP; KEEP 4; ADOPT; GLOBAL 1",
            "GLOBAL 4; PUSH 1; SET 9; GLOBAL 1");
        hits("another object changed", 1, "GLOBAL 1", "GLOBAL 3; PUSH 1; SET 7; GLOBAL 1");
        hits("changed, then remembered anew", 1, "GLOBAL 1", "GLOBAL 0; PUSH 1; SET 7; GLOBAL 1", "GLOBAL 1");
    }

    private static void changesOfTheValue() {
        hits("a slot of its own", 0, "GLOBAL 1", "GLOBAL 1; PUSH 1; SET 7; GLOBAL 1");
        hits("a slot that came and went", 1, "GLOBAL 1", "GLOBAL 1; PUSH 1; SET 7; GLOBAL 1; DROP 7; GLOBAL 1");
        hits("a parent that came and went", 1, "GLOBAL 1",
            "GLOBAL 1; GLOBAL 3; ADOPT; GLOBAL 1; GLOBAL 0; ADOPT; GLOBAL 1");
        hits("another parent", 0, "GLOBAL 1", "GLOBAL 1; GLOBAL 3; ADOPT; GLOBAL 1");
    }

    private static void otherKinds() {
        String ints = "GLOBAL 0; PROTO 1; PUSH 4";
        hits("ints", 1, ints, "PUSH 9");
        hits("the same proto once more", 1, ints, ints);
        hits("another proto", 0, ints, "GLOBAL 3; PROTO 1; PUSH 4");
        hits("another kind", 0, ints, "GLOBAL 0; PROTO 0; NIL");
        hits("an int and an object", 0, "GLOBAL 3", "GLOBAL 3; PROTO 1; PUSH 1");
        hits("an object whose parent is that proto", 0, ints, "GLOBAL 0; NEW");
        hits("a proto that changed", 0, ints, "GLOBAL 0; PUSH 1; SET 9; PUSH 4");
        hits("a proto's parent that changed", 0, "GLOBAL 1; PROTO 1; PUSH 4", "GLOBAL 0; PUSH 1; SET 9; PUSH 4");
        hits("NILs", 1, "GLOBAL 0; PROTO 0; NIL", "NIL");
        hits("methods", 1, "GLOBAL 0; PROTO 3; METHOD 1", "METHOD 100");
    }

    private static void sends() {
        String loop = "PUSH 3; KEEP 8; LABEL 1; GLOBAL 1; PUSH 4; SEND 3 1; POP;"
            + "GLOBAL 8; PUSH 1; SUB; DUP; KEEP 8; UNLESS 2; JUMP 1; LABEL 2; HALT; LABEL 3; ENTER 1 0; LOCAL 0; RETURN";
        ProtoMachine m = Check.ran(FAMILY + "GLOBAL 0; METHOD 3; SET 3;" + loop);
        Check.same("end", 1, m.step());
        Check.same("steps of sites", 3, m.many(8));
        Check.same("hits", 2, m.many(7));
        ProtoMachine two = Check.ran(FAMILY + "GLOBAL 1; SEND 1 0; GLOBAL 1; SEND 1 0; GLOBAL 1; GET 1");
        Check.same("each place is its own", 0, two.many(7));
        Check.same("each counts", 3, two.many(8));
        ProtoMachine has = Check.ran(FAMILY + "GLOBAL 1; HAS 1; GLOBAL 1; PARENT");
        Check.same("HAS is no site", 0, has.many(8));
    }

    private static void badStepsAreForgotten() {
        ProtoMachine m = Check.ran(FAMILY + "GLOBAL 1; GET 9");
        Check.same("end", 2, m.step());
        Check.same("no step of a site", 0, m.many(8));
        ProtoMachine send = Check.ran(FAMILY + "GLOBAL 1; PUSH 1; SEND 1 1");
        Check.same("end of SEND", 7, send.step());
        Check.same("nor of SEND", 0, send.many(8));
    }

    /** A parent that is freed is remembered as the very one, though its place may be used again. */
    private static void freedParents() {
        ProtoMachine m = Check.linked(60, 200, "LABEL 1;" + OBJECT + "DUP; PUSH 5; SET 1; NEW; GET 1; POP; JUMP 1");
        m.run(9);
        Check.same("two are freed", 7, m.collectMajor());
        m.run(9);
        Check.same("a new parent, no hit", 0, m.many(7));
        Check.same("two steps of sites", 2, m.many(8));
    }
}
