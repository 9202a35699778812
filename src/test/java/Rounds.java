/** One site that is come to again and again. */
final class Rounds {
    /** Global 0 is a parent with slot 1, globals 1 and 2 are children of one shape, 3 is a copy of the parent. */
    static final String FAMILY = "NIL; NEW; KEEP 0; GLOBAL 0; PUSH 5; SET 1; GLOBAL 0; NEW; KEEP 1;"
        + "GLOBAL 1; PUSH 1; SET 2; GLOBAL 1; CLONE; KEEP 2; GLOBAL 0; CLONE; KEEP 3;";

    private Rounds() {
    }

    /** Lays words that each bring a value, and takes those values, one after another, at one GET 1: tells the hits. */
    static void hits(String of, int due, String... between) {
        StringBuilder code = new StringBuilder(FAMILY + "JUMP 1;");
        StringBuilder rounds = new StringBuilder("LABEL 1;");
        for (int i = 0; i < between.length; i++) {
            rounds.append(between[i]).append("; PUSH ").append(i).append("; STORE 0; JUMP 100;")
                .append("LABEL ").append(i + 2).append(";");
        }
        rounds.append("HALT; LABEL 100; GET 1; POP;");
        for (int i = 0; i < between.length; i++) {
            rounds.append("LOCAL 0; PUSH ").append(i).append("; EQUAL; UNLESS ").append(101 + i)
                .append("; JUMP ").append(i + 2).append("; LABEL ").append(101 + i).append(";");
        }
        ProtoMachine m = Check.linked(200, 4000, code.append(rounds).toString());
        Check.same("end of " + of, 1, m.run(20000));
        Check.same("hits of " + of, due, m.many(7));
        Check.same("steps of sites of " + of, between.length, m.many(8));
    }
}
