/** Code that comes to the edges that only many steps come to, in few words. */
final class Deep {
    private Deep() {
    }

    /** Leaves so many values (3 .. 1000) on the pile, the two uppermost NIL, the others 5; uses label 199 and global 15. */
    static String pile(int values) {
        return "PUSH 0; KEEP 15; LABEL 199; PUSH 5; GLOBAL 15; PUSH 1; ADD; DUP; KEEP 15; PUSH " + (values - 2)
            + "; EQUAL; UNLESS 199; NIL; NIL;";
    }

    /**
     * Goes on with the words told in a frame so deep (2 .. 200; the first frame is 1), with an empty pile.
     * Global 14 has a method 62 without values, which halts, and a 61 without an ENTER; labels 194 to 199 are used.
     */
    static String frames(int frames, String words) {
        return "PUSH " + (frames - 1) + "; KEEP 15; NIL; NEW; KEEP 14; GLOBAL 14; METHOD 199; SET 63;"
            + "GLOBAL 14; METHOD 197; SET 62; GLOBAL 14; METHOD 196; SET 61;"
            + "GLOBAL 14; SEND 63 0; HALT; LABEL 199; ENTER 0 0; GLOBAL 15; PUSH 1; SUB; DUP; KEEP 15; UNLESS 198;"
            + "GLOBAL 14; SEND 63 0; RETURN; LABEL 197; ENTER 0 0; HALT; LABEL 196; HALT; LABEL 198;" + words;
    }

    /** A chain of so many objects, each the parent of the next one; the last one is kept in global 0. */
    static String parents(int objects, String words) {
        return "PUSH " + objects + "; KEEP 1; LABEL 199; GLOBAL 0; NEW; KEEP 0; GLOBAL 1; PUSH 1; SUB; DUP; KEEP 1;"
            + "UNLESS 198; JUMP 199; LABEL 198;" + words;
    }

    /** How many steps parents() takes to the first of the words told. */
    static int stepsOfParents(int objects) {
        return 3 + 9 * objects + (objects - 1);
    }
}
