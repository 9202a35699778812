import java.util.List;

/** What all tests share: machines from readable code, and the count of wrong answers. */
final class Check {
    static final int BAD = ProtoMachine.BAD;
    static final int RUNNING = 0;
    static final int HALTED = 1;

    static final List<String> OPERATIONS = List.of(
        "HALT", "PUSH", "NIL", "POP", "DUP", "SWAP", "ADD", "SUB", "MUL", "DIV", "REM", "LESS", "EQUAL",
        "JUMP", "UNLESS", "LOCAL", "STORE", "GLOBAL", "KEEP", "NEW", "CLONE", "GET", "SET", "DROP", "HAS",
        "PARENT", "ADOPT", "PROTO", "METHOD", "SEND", "SELF", "RETURN", "PRINT", "LABEL", "ENTER");

    private static int wrong = 0;
    private static int right = 0;
    private static String sentence = "";

    private Check() {
    }

    static void same(String what, long due, long got) {
        if (due == got) {
            right++;
            return;
        }
        wrong++;
        System.out.println(sentence + what + ": answered " + got + ", due is " + due);
    }

    /** Names the sentence of the document to which the answers from here on belong. */
    static void of(String section, String words) {
        sentence = section + " \"" + words + "\": ";
        holds("it is in the document", Document.quote(section, words));
    }

    /** Says that the answers from here on belong to no sentence. */
    static void ofNone() {
        sentence = "";
    }

    static void holds(String what, boolean is) {
        same(what, 1, is ? 1 : 0);
    }

    static boolean allRight() {
        return wrong == 0;
    }

    static void end(String test) {
        System.out.println(test + ": " + right + " answers as due, " + wrong + " wrong");
        if (wrong != 0) {
            System.exit(1);
        }
    }

    static int operation(String name) {
        return OPERATIONS.indexOf(name);
    }

    /** Lays words told as "PUSH 5", several of them parted by ';'. */
    static void lay(ProtoMachine machine, String code) {
        for (String word : code.split(";")) {
            if (word.isBlank()) {
                continue;
            }
            String[] parts = word.trim().split("\\s+");
            if (operation(parts[0]) < 0) {
                throw new IllegalArgumentException("no such operation: " + word);
            }
            machine.asm(operation(parts[0]), operand(parts, 1), operand(parts, 2));
        }
    }

    private static int operand(String[] parts, int k) {
        return k < parts.length ? Integer.parseInt(parts[k]) : 0;
    }

    static ProtoMachine linked(int nursery, int great, String code) {
        ProtoMachine machine = new ProtoMachine(nursery, great);
        lay(machine, code);
        same("link of " + code, 0, machine.link());
        return machine;
    }

    /** A linked machine with ample room that has run as far as it goes. */
    static ProtoMachine ran(String code) {
        ProtoMachine machine = linked(200, 4000, code);
        machine.run(20000);
        return machine;
    }

    /** Tells the end of a code, the word at which it ended, and how many values it left. */
    static void ends(String code, int due, int word, int values) {
        ProtoMachine machine = ran(code);
        same("end of " + code, due, machine.step());
        same("word of " + code, word, machine.many(10));
        same("values of " + code, values, machine.many(11));
    }

    /** Tells the value that a code prints last. */
    static void prints(String code, int kind, int number) {
        ProtoMachine machine = ran(code);
        same("end of " + code, HALTED, machine.step());
        int last = machine.outSize() - 1;
        same("kind printed by " + code, kind, machine.out(last, 0));
        same("number printed by " + code, number, machine.out(last, 1));
    }

    static String repeat(String code, int times) {
        return (code + ";").repeat(times);
    }

    /** Tells many(0), many(1) and so on, as far as they are given. */
    static void rooms(String of, ProtoMachine m, int... due) {
        for (int what = 0; what < due.length; what++) {
            same("many(" + what + ") " + of, due[what], m.many(what));
        }
    }

    /** Code of 3 + 3 * slots steps that keeps an object with so many slots in global 0. */
    static String grown(int slots) {
        StringBuilder code = new StringBuilder("NIL; NEW; KEEP 0;");
        for (int name = 0; name < slots; name++) {
            code.append("GLOBAL 0; PUSH ").append(name).append("; SET ").append(name).append(";");
        }
        return code.toString();
    }
}
