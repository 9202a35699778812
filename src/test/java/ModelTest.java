import java.util.ArrayList;
import java.util.List;
import java.util.Random;

/** Programs at random, on the machine and on the model, with all that can be looked at held side by side. */
public final class ModelTest {
    private static final int PROGRAMS = 6000;
    private static final int[] ends = new int[11];
    private static int minors;
    private static int majors;
    private static int hits;

    private final Random random;
    private final List<int[]> words = new ArrayList<>();
    private int labels = 20;

    private ModelTest(long seed) {
        random = new Random(seed);
    }

    public static void main(String[] args) {
        for (int seed = 0; seed < PROGRAMS && Check.allRight(); seed++) {
            new ModelTest(seed).compare("program " + seed);
        }
        for (int end = 0; end < ends.length; end++) {
            Check.holds("some programs end with " + end, ends[end] > 0);
        }
        Check.holds("there are MINORS", minors > 1000);
        Check.holds("there are MAJORS", majors > 1000);
        Check.holds("there are HITS", hits > 1000);
        Check.end("ModelTest");
    }

    private void compare(String program) {
        if (random.nextInt(5) == 0) {
            anyCode();
        } else {
            likelyCode();
        }
        int nursery = 8 + random.nextInt(random.nextInt(4) == 0 ? 60 : 20);
        int great = 16 + random.nextInt(random.nextInt(3) == 0 ? 300 : 60);
        ProtoMachine machine = new ProtoMachine(nursery, great);
        Model model = new Model(nursery, great);
        for (int[] word : words) {
            machine.asm(word[0], word[1], word[2]);
            model.words.add(new Model.Word(word[0], word[1], word[2]));
        }
        Check.same("link of " + program, 0, machine.link());
        model.link();
        if (random.nextInt(3) == 0) {
            machine.run(random.nextInt(200));
            machine.restart();
        }
        for (int round = 0; round < 25 && Check.allRight(); round++) {
            proceed(program, machine, model);
            look(program + ", round " + round, machine, model);
        }
        ends[model.state]++;
        minors += model.minors;
        majors += model.majors;
        hits += model.hits;
    }

    private void proceed(String program, ProtoMachine machine, Model model) {
        int choice = random.nextInt(12);
        if (choice == 0) {
            Check.same("collectMinor of " + program, model.minor(), machine.collectMinor());
        } else if (choice == 1) {
            Check.same("collectMajor of " + program, model.major(), machine.collectMajor());
        } else {
            int n = choice < 8 ? random.nextInt(4) : random.nextInt(60);
            for (int i = 0; i < n; i++) {
                model.step();
            }
            int got = n == 1 ? machine.step() : machine.run(n);
            Check.same("run(" + n + ") of " + program, model.state, got);
        }
    }

    private static void look(String of, ProtoMachine machine, Model model) {
        for (int what = 0; what <= 13; what++) {
            Check.same("many(" + what + ") of " + of, model.many(what), machine.many(what));
        }
        for (int k = 0; k < model.pile.size(); k++) {
            Object value = model.pile.get(model.pile.size() - 1 - k);
            value("pile " + k + " of " + of, value, machine.pile(k, 0), machine.pile(k, 1));
        }
        Model.Frame top = model.frames.get(model.frames.size() - 1);
        for (int k = 0; k < 16; k++) {
            if (k < top.locals.length) {
                value("local " + k + " of " + of, top.locals[k], machine.local(k, 0), machine.local(k, 1));
            } else {
                Check.same("local " + k + " of " + of, Check.BAD, machine.local(k, 0));
            }
        }
        value("self of " + of, top.self, machine.local(16, 0), machine.local(16, 1));
        for (Model.Body body : model.bodies) {
            lookAt(of, machine, body);
        }
        Check.same("no further object of " + of, Check.BAD, machine.object(model.bodies.size() + 1, 0));
        Check.same("outSize of " + of, model.out.size(), machine.outSize());
        for (int i = 0; i < model.out.size() && i < 1000; i++) {
            value("out " + i + " of " + of, model.out.get(i), machine.out(i, 0), machine.out(i, 1));
        }
    }

    private static void lookAt(String of, ProtoMachine machine, Model.Body body) {
        String name = "object " + body.serial + " of " + of;
        Check.same("where is " + name, body.where, machine.object(body.serial, 0));
        if (body.where == 2) {
            Check.same("size of freed " + name, Check.BAD, machine.object(body.serial, 1));
            return;
        }
        Check.same("size of " + name, body.size(), machine.object(body.serial, 1));
        Check.same("slots of " + name, body.slots.size(), machine.object(body.serial, 2));
        Check.same("parent of " + name, Model.number(body.parent), machine.object(body.serial, 3));
        Check.same("change of " + name, body.changed, machine.object(body.serial, 4));
        int k = 0;
        for (int slotName : body.slots.keySet()) {
            Check.same("name " + k + " of " + name, slotName, machine.slot(body.serial, k, 0));
            value("slot " + k + " of " + name, body.slots.get(slotName),
                machine.slot(body.serial, k, 1), machine.slot(body.serial, k, 2));
            k++;
        }
    }

    private static void value(String of, Object due, int kind, int number) {
        Check.same("kind of " + of, Model.kind(due), kind);
        Check.same("number of " + of, Model.number(due), number);
    }

    private void word(int op, int a, int b) {
        words.add(new int[] {op, a, b});
    }

    /** Words without any care for what they take, so that every end comes early and often. */
    private void anyCode() {
        prelude();
        for (int label = 0; label < 4; label++) {
            word(33, label, 0);
            word(34, label, 1);
            int n = random.nextInt(12);
            for (int i = 0; i < n; i++) {
                anyWord();
            }
        }
    }

    private void anyWord() {
        int op = random.nextInt(33);
        int a = switch (op) {
            case 1 -> random.nextInt(5) == 0 ? random.nextInt() >> 1 : random.nextInt(3);
            case 13, 14, 28 -> random.nextInt(4);
            case 15, 16, 17, 18 -> random.nextInt(8);
            case 21, 22, 23, 24, 29 -> random.nextInt(6);
            case 27 -> new int[] {0, 1, 3}[random.nextInt(3)];
            default -> 0;
        };
        word(op, a, op == 29 ? random.nextInt(4) : 0);
    }

    /** Global 0 and all its descendants know names 0 to 3; global 0 to 5 are objects, 6 is an int. */
    private void prelude() {
        word(2, 0, 0);
        word(19, 0, 0);
        word(18, 0, 0);
        for (int name = 0; name < 4; name++) {
            word(17, 0, 0);
            if (name == 3) {
                word(28, 3, 0);
            } else {
                word(1, name, 0);
            }
            word(22, name, 0);
        }
        for (int k = 1; k <= 5; k++) {
            word(17, random.nextInt(k), 0);
            word(random.nextInt(4) == 0 ? 20 : 19, 0, 0);
            word(18, k, 0);
        }
        for (int kind : new int[] {0, 1, 3}) {
            word(17, random.nextInt(6), 0);
            word(27, kind, 0);
        }
        word(1, 3, 0);
        word(18, 6, 0);
        for (int name = random.nextInt(8) == 0 ? 24 : 64; name < 64; name++) {
            word(17, 5, 0);
            word(random.nextInt(9) == 0 ? 2 : 30, 0, 0);
            word(22, name, 0);
        }
    }

    /** A loop of statements that leave the pile as it was, and one method. */
    private void likelyCode() {
        prelude();
        word(33, 0, 0);
        int n = 5 + random.nextInt(20);
        for (int i = 0; i < n; i++) {
            statement(0);
        }
        word(13, 0, 0);
        word(33, 3, 0);
        word(34, random.nextInt(8) == 0 ? 1 : 0, random.nextInt(3));
        for (int i = random.nextInt(4); i > 0; i--) {
            statement(1);
        }
        word(random.nextBoolean() ? 30 : 17, 0, 0);
        word(31, 0, 0);
    }

    private void pushObject() {
        switch (random.nextInt(8)) {
            case 0 -> {
                pushParent();
                word(19, 0, 0);
            }
            case 1 -> {
                word(17, random.nextInt(6), 0);
                word(20, 0, 0);
            }
            default -> word(17, random.nextInt(6), 0);
        }
    }

    private void pushParent() {
        if (random.nextInt(20) == 0) {
            word(2, 0, 0);
        } else {
            word(17, random.nextInt(6), 0);
        }
    }

    private void pushValue() {
        switch (random.nextInt(6)) {
            case 0 -> word(2, 0, 0);
            case 1 -> word(1, random.nextInt(4), 0);
            case 2 -> word(28, 3, 0);
            default -> pushObject();
        }
    }

    private void statement(int depth) {
        switch (random.nextInt(12)) {
            case 0, 1 -> {
                pushObject();
                pushValue();
                word(22, 4 + random.nextInt(random.nextInt(3) == 0 ? 50 : 4), 0);
            }
            case 2, 3 -> {
                pushValue();
                word(21, random.nextInt(4), 0);
                word(random.nextBoolean() ? 3 : 32, 0, 0);
            }
            case 4 -> {
                pushValue();
                word(29, depth == 0 ? random.nextInt(4) : random.nextInt(3), 0);
                word(3, 0, 0);
            }
            case 5 -> dropIfThere();
            case 6, 7 -> {
                pushObject();
                word(18, 1 + random.nextInt(5), 0);
            }
            case 8 -> {
                word(17, 5, 0);
                word(17, random.nextInt(5), 0);
                word(26, 0, 0);
            }
            case 9 -> count();
            case 10 -> {
                pushObject();
                word(27, new int[] {0, 1, 3}[random.nextInt(3)], 0);
            }
            default -> {
                pushValue();
                pushValue();
                word(12, 0, 0);
                word(32, 0, 0);
            }
        }
    }

    private void dropIfThere() {
        int k = random.nextInt(6);
        int name = 4 + random.nextInt(4);
        int label = labels++;
        // A name that is found may be an ancestor's: then the DROP ends the program.
        word(17, k, 0);
        word(24, name, 0);
        word(14, label, 0);
        if (random.nextInt(3) > 0) {
            word(17, k, 0);
            word(1, 0, 0);
            word(22, name, 0);
        }
        word(17, k, 0);
        word(23, name, 0);
        word(33, label, 0);
    }

    private void count() {
        word(17, 6, 0);
        word(1, random.nextInt(6) == 0 ? random.nextInt() >> 1 : random.nextInt(8), 0);
        word(6 + random.nextInt(6), 0, 0);
        word(18, 6, 0);
    }
}
