import java.util.Random;

/** Calls at random, with any arguments in any state: none may throw, and each answers within its bounds. */
public final class WildTest {
    private static final int RUNS = 3000;
    private static final int CALLS = 512;
    private static final int[] EDGES = {Integer.MIN_VALUE, -1073741825, -1073741824, -1, 0, 1, 2, 3, 7, 8, 9, 15, 16,
        17, 34, 35, 63, 64, 199, 200, 999, 1000, 1073741823, 1073741824, Integer.MAX_VALUE};

    private final Random random;
    private final ProtoMachine machine;

    private WildTest(long seed) {
        random = new Random(seed);
        machine = new ProtoMachine(any(), any());
    }

    public static void main(String[] args) {
        for (int seed = 0; seed < RUNS; seed++) {
            WildTest test = new WildTest(seed);
            for (int i = 0; i < CALLS; i++) {
                test.call("run " + seed + ", call " + i);
            }
        }
        Check.end("WildTest");
    }

    private int any() {
        return switch (random.nextInt(4)) {
            case 0 -> random.nextInt();
            case 1 -> EDGES[random.nextInt(EDGES.length)];
            default -> random.nextInt(12);
        };
    }

    private void within(String call, int least, int most, int got) {
        Check.holds(call + " answers " + least + " .. " + most + ", not " + got, got >= least && got <= most);
    }

    private void call(String of) {
        switch (random.nextInt(24)) {
            case 0, 1, 2, 3, 4, 5 -> within(of + ", asm", 1, 2000, machine.asm(likelyOperation(), any(), 0));
            case 6 -> within(of + ", asm", 1, 2000, machine.asm(any(), any(), any()));
            case 7, 8 -> linkOrMend(of);
            case 9, 10 -> within(of + ", step", -1, 10, machine.step());
            case 11, 12 -> within(of + ", run", -1, 10, machine.run(random.nextInt(100)));
            case 13 -> within(of + ", run", -1, 10, machine.run(any()));
            case 14 -> within(of + ", restart", -1, 20000 * CALLS, machine.restart());
            case 15 -> within(of + ", collectMinor", -3, 200, machine.collectMinor());
            case 16 -> within(of + ", collectMajor", -1, 4200, machine.collectMajor());
            case 17 -> within(of + ", many", -1, 20000 * CALLS, machine.many(any()));
            case 18 -> machine.pile(any(), any());
            case 19 -> machine.local(any(), any());
            case 20 -> machine.object(any(), any());
            case 21 -> machine.slot(any(), any(), any());
            case 22 -> within(of + ", outSize", 0, 20000 * CALLS, machine.outSize());
            default -> machine.out(any(), any());
        }
    }

    private int likelyOperation() {
        int[] simple = {1, 2, 2, 4, 4, 5, 15, 17, 18, 19, 19, 19, 20, 22, 22, 24, 25, 30, 32, 33, 34};
        return simple[random.nextInt(simple.length)];
    }

    /** A code with a fault is wiped now and then, so that some codes are linked and run. */
    private void linkOrMend(String of) {
        int linked = machine.link();
        within(of + ", link", -2009, 0, linked);
        within(of + ", fault", linked == 0 ? 0 : 1, linked == 0 ? 0 : 4, machine.fault());
        if (linked != 0 && random.nextBoolean()) {
            within(of + ", wipe", 1, 2000, machine.wipe());
        }
    }
}
