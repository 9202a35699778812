/** Sites: what GET and SEND remember, and what is a HIT (promise 11, 7 and 8). */
public final class SitesTest {
    private static final String OBJECT = "NIL; NEW;";

    public static void main(String[] args) {
        sameShape();
        changesOfTheChain();
        changesOfTheValue();
        otherKinds();
        sends();
        badStepsAreForgotten();
        freedParents();
        Check.end("SitesTest");
    }

    private static void sameShape() {
        Rounds.hits("one object", 1, "GLOBAL 1", "GLOBAL 1");
        Rounds.hits("three times", 2, "GLOBAL 1", "GLOBAL 1", "GLOBAL 1");
        Rounds.hits("one shape", 1, "GLOBAL 1", "GLOBAL 2");
        Rounds.hits("the parent and a child", 0, "GLOBAL 0", "GLOBAL 1");
        Rounds.hits("there and back: only the last is remembered", 0, "GLOBAL 1", "GLOBAL 0", "GLOBAL 1");
        Rounds.hits("equal shapes without parents", 1, "GLOBAL 0", "GLOBAL 3");
        Rounds.hits("another value in a slot", 1, "GLOBAL 1", "GLOBAL 1; PUSH 9; SET 2; GLOBAL 1");
        Rounds.hits("equal names, another parent", 0, "GLOBAL 1", "GLOBAL 3; NEW; DUP; PUSH 1; SET 2");
        Rounds.hits("a new one of the same shape", 1, "GLOBAL 1", "GLOBAL 0; NEW; DUP; PUSH 1; SET 2");
        Rounds.hits("names in another order", 0, "GLOBAL 1; PUSH 1; SET 3; GLOBAL 1",
            "GLOBAL 0; NEW; DUP; PUSH 1; SET 3; DUP; PUSH 1; SET 2");
        Rounds.hits("another first name", 0, "GLOBAL 1; PUSH 1; SET 3; GLOBAL 1",
            "GLOBAL 0; NEW; DUP; PUSH 1; SET 4; DUP; PUSH 1; SET 3");
        Rounds.hits("another last name", 0, "GLOBAL 1; PUSH 1; SET 3; GLOBAL 1", "GLOBAL 2; PUSH 1; SET 4; GLOBAL 2");
        Rounds.hits("fewer names", 0, "GLOBAL 1; PUSH 1; SET 3; GLOBAL 1", "GLOBAL 2");
        Rounds.hits("more names", 0, "GLOBAL 1", "GLOBAL 2; PUSH 1; SET 3; GLOBAL 2");
    }

    private static void changesOfTheChain() {
        Rounds.hits("the parent got a slot", 0, "GLOBAL 1", "GLOBAL 0; PUSH 1; SET 7; GLOBAL 1");
        Rounds.hits("the parent got it before", 1, "GLOBAL 0; PUSH 1; SET 7; GLOBAL 1", "GLOBAL 1");
        Rounds.hits("the parent's slot got a value", 1, "GLOBAL 1", "GLOBAL 0; PUSH 1; SET 1; GLOBAL 1");
        Rounds.hits("a slot came and went", 0, "GLOBAL 1", "GLOBAL 0; PUSH 1; SET 7; GLOBAL 0; DROP 7; GLOBAL 1");
        Rounds.hits("the parent got a parent", 0, "GLOBAL 1", "GLOBAL 0; NIL; NEW; ADOPT; GLOBAL 1");
        Rounds.hits("the parent got the same parent", 1, "GLOBAL 1", "GLOBAL 0; NIL; ADOPT; GLOBAL 1");
        Rounds.hits("behind the one that has it", 0, "GLOBAL 0; NIL; NEW; DUP; KEEP 4; ADOPT; GLOBAL 1",
            "GLOBAL 4; PUSH 1; SET 9; GLOBAL 1");
        Rounds.hits("another object changed", 1, "GLOBAL 1", "GLOBAL 3; PUSH 1; SET 7; GLOBAL 1");
        Rounds.hits("changed, then remembered anew", 1, "GLOBAL 1", "GLOBAL 0; PUSH 1; SET 7; GLOBAL 1", "GLOBAL 1");
    }

    private static void changesOfTheValue() {
        Rounds.hits("a slot of its own", 0, "GLOBAL 1", "GLOBAL 1; PUSH 1; SET 7; GLOBAL 1");
        Rounds.hits("a slot that came and went", 1, "GLOBAL 1", "GLOBAL 1; PUSH 1; SET 7; GLOBAL 1; DROP 7; GLOBAL 1");
        Rounds.hits("a parent that came and went", 1, "GLOBAL 1",
            "GLOBAL 1; GLOBAL 3; ADOPT; GLOBAL 1; GLOBAL 0; ADOPT; GLOBAL 1");
        Rounds.hits("another parent", 0, "GLOBAL 1", "GLOBAL 1; GLOBAL 3; ADOPT; GLOBAL 1");
    }

    private static void otherKinds() {
        String ints = "GLOBAL 0; PROTO 1; PUSH 4";
        Rounds.hits("ints", 1, ints, "PUSH 9");
        Rounds.hits("the same proto once more", 1, ints, ints);
        Rounds.hits("another proto", 0, ints, "GLOBAL 3; PROTO 1; PUSH 4");
        Rounds.hits("another kind", 0, ints, "GLOBAL 0; PROTO 0; NIL");
        Rounds.hits("an int and an object", 0, "GLOBAL 3", "GLOBAL 3; PROTO 1; PUSH 1");
        Rounds.hits("an object whose parent is that proto", 0, ints, "GLOBAL 0; NEW");
        Rounds.hits("a proto that changed", 0, ints, "GLOBAL 0; PUSH 1; SET 9; PUSH 4");
        Rounds.hits("a proto's parent that changed", 0, "GLOBAL 1; PROTO 1; PUSH 4", "GLOBAL 0; PUSH 1; SET 9; PUSH 4");
        Rounds.hits("NILs", 1, "GLOBAL 0; PROTO 0; NIL", "NIL");
        Rounds.hits("methods", 1, "GLOBAL 0; PROTO 3; METHOD 1", "METHOD 100");
    }

    private static void sends() {
        String loop = "PUSH 3; KEEP 8; LABEL 1; GLOBAL 1; PUSH 4; SEND 3 1; POP;"
            + "GLOBAL 8; PUSH 1; SUB; DUP; KEEP 8; UNLESS 2; JUMP 1; LABEL 2; HALT; LABEL 3; ENTER 1 0; LOCAL 0; RETURN";
        ProtoMachine m = Check.ran(Rounds.FAMILY + "GLOBAL 0; METHOD 3; SET 3;" + loop);
        Check.same("end", 1, m.step());
        Check.same("steps of sites", 3, m.many(8));
        Check.same("hits", 2, m.many(7));
        ProtoMachine two = Check.ran(Rounds.FAMILY + "GLOBAL 1; SEND 1 0; GLOBAL 1; SEND 1 0; GLOBAL 1; GET 1");
        Check.same("each place is its own", 0, two.many(7));
        Check.same("each counts", 3, two.many(8));
        ProtoMachine has = Check.ran(Rounds.FAMILY + "GLOBAL 1; HAS 1; GLOBAL 1; PARENT");
        Check.same("HAS is no site", 0, has.many(8));
    }

    private static void badStepsAreForgotten() {
        ProtoMachine m = Check.ran(Rounds.FAMILY + "GLOBAL 1; GET 9");
        Check.same("end", 2, m.step());
        Check.same("no step of a site", 0, m.many(8));
        ProtoMachine send = Check.ran(Rounds.FAMILY + "GLOBAL 1; PUSH 1; SEND 1 1");
        Check.same("end of SEND", 7, send.step());
        Check.same("nor of SEND", 0, send.many(8));
    }

    /** A parent that is freed is remembered as the very one, though its place may be used again. */
    private static void freedParents() {
        ProtoMachine m = Check.linked(60, 200, "LABEL 1;" + OBJECT + "DUP; PUSH 5; SET 1; NEW; GET 1; POP; JUMP 1");
        m.run(9);
        Check.same("two are freed", 7, m.collectMajor());
        m.run(9);
        Check.same("a new parent, no hit", 0, m.many(7));
        Check.same("two steps of sites", 2, m.many(8));
    }
}
