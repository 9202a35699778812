/** All that can be looked at of a machine, as one text: two such texts tell whether anything changed. */
final class Looks {
    private static final int OBJECTS = 8;
    private static final int DEEPEST = 8;

    private Looks() {
    }

    static String all(ProtoMachine m) {
        return counts(m) + rows(m) + objects(m);
    }

    /** What is neither an object nor a count of the rooms: what making room leaves as it is. */
    static String besidesRoom(ProtoMachine m) {
        StringBuilder text = new StringBuilder();
        for (int what = 7; what <= 13; what++) {
            text.append(m.many(what)).append(' ');
        }
        return text + rows(m);
    }

    private static String counts(ProtoMachine m) {
        StringBuilder text = new StringBuilder();
        for (int what = 0; what <= 13; what++) {
            text.append(m.many(what)).append(' ');
        }
        return text.toString();
    }

    private static String rows(ProtoMachine m) {
        StringBuilder text = new StringBuilder("pile ");
        for (int k = 0; k < DEEPEST; k++) {
            text.append(m.pile(k, 0)).append(':').append(m.pile(k, 1)).append(' ');
        }
        text.append("locals ");
        for (int k = 0; k <= 16; k++) {
            text.append(m.local(k, 0)).append(':').append(m.local(k, 1)).append(' ');
        }
        text.append("out ").append(m.outSize()).append(' ');
        for (int i = 0; i < DEEPEST; i++) {
            text.append(m.out(i, 0)).append(':').append(m.out(i, 1)).append(' ');
        }
        return text.toString();
    }

    private static String objects(ProtoMachine m) {
        StringBuilder text = new StringBuilder("objects ");
        for (int serial = 1; serial <= OBJECTS; serial++) {
            for (int what = 0; what <= 4; what++) {
                text.append(m.object(serial, what)).append(' ');
            }
            for (int k = 0; k < DEEPEST; k++) {
                for (int what = 0; what <= 2; what++) {
                    text.append(m.slot(serial, k, what)).append(' ');
                }
            }
        }
        return text.toString();
    }
}
