import java.util.Arrays;

/** A machine for programs with objects that have no classes. DOC.md says, promise by promise, what it does. */
public final class ProtoMachine {
    public static final int BAD = -1;
    public static final int FULL = -2;
    public static final int NO_ROOM = -3;

    private static final int HALT = 0;
    private static final int PUSH = 1;
    private static final int NIL = 2;
    private static final int POP = 3;
    private static final int DUP = 4;
    private static final int SWAP = 5;
    private static final int ADD = 6;
    private static final int SUB = 7;
    private static final int MUL = 8;
    private static final int DIV = 9;
    private static final int REM = 10;
    private static final int LESS = 11;
    private static final int EQUAL = 12;
    private static final int JUMP = 13;
    private static final int UNLESS = 14;
    private static final int LOCAL = 15;
    private static final int STORE = 16;
    private static final int GLOBAL = 17;
    private static final int KEEP = 18;
    private static final int NEW = 19;
    private static final int CLONE = 20;
    private static final int GET = 21;
    private static final int SET = 22;
    private static final int DROP = 23;
    private static final int HAS = 24;
    private static final int PARENT = 25;
    private static final int ADOPT = 26;
    private static final int PROTO = 27;
    private static final int METHOD = 28;
    private static final int SEND = 29;
    private static final int SELF = 30;
    private static final int RETURN = 31;
    private static final int PRINT = 32;
    private static final int LABEL = 33;
    private static final int ENTER = 34;

    private static final int KIND_NIL = 0;
    private static final int KIND_INT = 1;
    private static final int KIND_OBJECT = 2;
    private static final int KIND_METHOD = 3;

    private static final int INTS = 1 << KIND_INT;
    private static final int OBJECTS = 1 << KIND_OBJECT;
    private static final int PARENTS = OBJECTS | 1 << KIND_NIL;
    private static final int ALL_KINDS = PARENTS | INTS | 1 << KIND_METHOD;

    private static final int RUNNING = 0;
    private static final int HALTED = 1;
    private static final int NOT_FOUND = 2;
    private static final int WRONG_KIND = 3;
    private static final int BY_ZERO = 4;
    private static final int PILE_END = 5;
    private static final int INT_END = 6;
    private static final int NO_CALL = 7;
    private static final int ROOM_END = 8;
    private static final int OWN_PARENT = 9;
    private static final int SLOTS_END = 10;

    private static final int LEAST_INT = -1073741824;
    private static final int MOST_INT = 1073741823;
    private static final int MOST_WORDS = 2000;
    private static final int MOST_VALUES = 1000;
    private static final int MOST_FRAMES = 200;
    private static final int MOST_SLOTS = 40;
    private static final int MOST_OUT = 1000;
    private static final int MOST_STEPS = 20000;
    private static final int LABELS = 200;
    private static final int NAMES = 64;
    private static final int LOCALS = 16;
    private static final int SELF_AT = LOCALS;
    private static final int GLOBALS = 16;
    private static final int MOST_SENT = 8;
    private static final int EMPTY_SIZE = 3;
    private static final int NONE = -1;
    private static final long NOTHING = 0L;

    private final Code code;
    private final Heap heap;
    private final Roots roots;
    private final Output output;
    private boolean linked;
    private int state;
    private int at;
    private int next;
    private int steps;
    private int hits;
    private int siteSteps;

    public ProtoMachine(int nursery, int great) {
        code = new Code();
        roots = new Roots();
        heap = new Heap(nearest(nursery, 8, 200), nearest(great, 16, 4000), roots);
        output = new Output();
    }

    public int asm(int op, int a, int b) {
        if (code.size >= MOST_WORDS) {
            return FULL;
        }
        unlink();
        code.add(op, a, b);
        return code.size;
    }

    public int wipe() {
        unlink();
        int had = code.size;
        code.size = 0;
        return had;
    }

    public int link() {
        int wrong = code.firstFault();
        if (wrong != NONE) {
            unlink();
            return -10 - wrong;
        }
        beginAnew();
        linked = true;
        return 0;
    }

    public int fault() {
        return code.lastFault;
    }

    public int step() {
        if (!linked) {
            return BAD;
        }
        if (state == RUNNING) {
            advance();
        }
        return state;
    }

    public int run(int n) {
        if (!linked || n < 0 || n > MOST_STEPS) {
            return BAD;
        }
        for (int i = 0; i < n && state == RUNNING; i++) {
            advance();
        }
        return state;
    }

    public int restart() {
        if (!linked) {
            return BAD;
        }
        int had = steps;
        beginAnew();
        return had;
    }

    public int collectMinor() {
        return linked ? heap.minor() : BAD;
    }

    public int collectMajor() {
        return linked ? heap.major() : BAD;
    }

    public int many(int what) {
        if (what < 0 || what > 13) {
            return BAD;
        }
        if (what == 13) {
            return code.size;
        }
        return linked ? count(what) : 0;
    }

    public int pile(int k, int what) {
        if (k < 0 || k >= roots.height) {
            return BAD;
        }
        return told(heap.outward(roots.fromAbove(k)), what);
    }

    public int local(int k, int what) {
        // Without a link there is no frame: many(12) is 0 then.
        if (!linked) {
            return BAD;
        }
        if (k != SELF_AT && !roots.top.hasLocal(k)) {
            return BAD;
        }
        return told(heap.outward(roots.top.valueAt(k)), what);
    }

    public int object(int serial, int what) {
        if (what < 0 || what > 4 || serial < 1 || serial > heap.lastSerial) {
            return BAD;
        }
        Thing thing = heap.withSerial(serial);
        if (thing == null) {
            return what == 0 ? 2 : BAD;
        }
        switch (what) {
            case 0: return thing.old ? 1 : 0;
            case 1: return thing.size();
            case 2: return thing.count;
            case 3: return serialOf(thing.parent);
            default: return thing.changed;
        }
    }

    public int slot(int serial, int k, int what) {
        Thing thing = heap.withSerial(serial);
        if (thing == null || k < 0 || k >= thing.count) {
            return BAD;
        }
        if (what == 0) {
            return thing.names[k];
        }
        return told(heap.outward(thing.values[k]), what - 1);
    }

    public int outSize() {
        return output.count;
    }

    public int out(int i, int what) {
        if (i < 0 || i >= output.kept()) {
            return BAD;
        }
        return told(output.values[i], what);
    }

    private int count(int what) {
        switch (what) {
            case 0: return heap.youngCells;
            case 1: return heap.oldCells;
            case 2: return heap.youngThings;
            case 3: return heap.oldThings;
            case 4: return heap.freed;
            case 5: return heap.minors;
            case 6: return heap.majors;
            case 7: return hits;
            case 8: return siteSteps;
            case 9: return steps;
            case 10: return at;
            case 11: return roots.height;
            default: return roots.frames;
        }
    }

    private void unlink() {
        // A machine that is not linked is clean already: laying a long code stays cheap.
        if (linked) {
            beginAnew();
            linked = false;
        }
    }

    private void beginAnew() {
        roots.clear();
        heap.clear();
        output.count = 0;
        code.forgetAll();
        state = RUNNING;
        at = 0;
        steps = 0;
        hits = 0;
        siteSteps = 0;
    }

    /** One step. What refuses a step is found before anything is changed, so nothing has to be taken back. */
    private void advance() {
        Word word = code.wordAt(at);
        next = at + 1;
        int end = valuesEnd(word);
        if (end == RUNNING) {
            end = roomEnd(word);
        }
        if (end == RUNNING) {
            end = perform(word);
        }
        if (end == RUNNING || end == HALTED) {
            steps++;
        }
        if (end == RUNNING) {
            at = next;
        }
        state = end;
    }

    private int valuesEnd(Word word) {
        int wanted = word.wanted();
        if (roots.ofFrame() < wanted) {
            return PILE_END;
        }
        if (wanted > 0 && !isAmong(roots.fromAbove(0), word.kindsAbove())) {
            return WRONG_KIND;
        }
        if (wanted > 1 && !isAmong(roots.fromAbove(1), word.kindsBelow())) {
            return WRONG_KIND;
        }
        return RUNNING;
    }

    /** Makes the room that the word will need, while the values that it takes are still roots. */
    private int roomEnd(Word word) {
        if (word.op == NEW) {
            return heap.hasRoomToMake(EMPTY_SIZE) ? RUNNING : ROOM_END;
        }
        if (word.op != CLONE && word.op != SET) {
            return RUNNING;
        }
        Thing thing = heap.thingOf(roots.fromAbove(word.op == SET ? 1 : 0));
        if (thing == null) {
            return WRONG_KIND;
        }
        if (word.op == CLONE) {
            return heap.hasRoomToMake(thing.size()) ? RUNNING : ROOM_END;
        }
        if (thing.indexOf(word.a) != NONE) {
            return RUNNING;
        }
        if (thing.count >= MOST_SLOTS) {
            return SLOTS_END;
        }
        return heap.hasRoomForSlot(thing) ? RUNNING : ROOM_END;
    }

    private int perform(Word word) {
        switch (word.op) {
            case HALT: return HALTED;
            case PUSH: return bring(pack(KIND_INT, word.a));
            case NIL: return bring(NOTHING);
            case POP: return letGo(1);
            case DUP: return bring(roots.fromAbove(0));
            case SWAP: return swap();
            case ADD:
            case SUB:
            case MUL:
            case DIV:
            case REM:
            case LESS: return reckon(word.op);
            case EQUAL: return exchange(2, truth(roots.fromAbove(0) == roots.fromAbove(1)));
            case JUMP: return jump(word.a);
            case UNLESS: return isFalse(roots.take()) ? jump(word.a) : RUNNING;
            case LOCAL: return roots.top.hasLocal(word.a) ? bring(roots.top.valueAt(word.a)) : PILE_END;
            case STORE: return store(word.a);
            case GLOBAL: return bring(roots.globalAt(word.a));
            case KEEP: return keep(word.a);
            case METHOD: return bring(pack(KIND_METHOD, code.placeOf(word.a)));
            case SELF: return bring(roots.top.valueAt(SELF_AT));
            case RETURN: return giveBack();
            case PRINT: return print();
            case NEW: return makeNew();
            case CLONE: return makeCopy();
            case GET: return get(word);
            case SET: return set(word.a);
            case DROP: return drop(word.a);
            case HAS: return exchange(1, truth(finder(chainOf(roots.fromAbove(0)), word.a) != null));
            case PARENT: return parent();
            case ADOPT: return adopt();
            case PROTO: return proto(word.a);
            case SEND: return send(word);
            default: return RUNNING;
        }
    }

    private int bring(long value) {
        return roots.push(value) ? RUNNING : PILE_END;
    }

    private int exchange(int taken, long value) {
        roots.lower(taken);
        roots.push(value);
        return RUNNING;
    }

    private int letGo(int taken) {
        roots.lower(taken);
        return RUNNING;
    }

    private int swap() {
        long upper = roots.take();
        long lower = roots.take();
        roots.push(upper);
        roots.push(lower);
        return RUNNING;
    }

    private int reckon(int op) {
        int first = numberOf(roots.fromAbove(1));
        int second = numberOf(roots.fromAbove(0));
        if (second == 0 && (op == DIV || op == REM)) {
            return BY_ZERO;
        }
        long result = op == LESS ? (first < second ? 1 : 0) : arithmetic(op, first, second);
        if (result < LEAST_INT || result > MOST_INT) {
            return INT_END;
        }
        return exchange(2, pack(KIND_INT, (int) result));
    }

    private static long arithmetic(int op, long first, long second) {
        switch (op) {
            case ADD: return first + second;
            case SUB: return first - second;
            case MUL: return first * second;
            case DIV: return second == 0 ? 0 : first / second;
            default: return second == 0 ? 0 : first % second;
        }
    }

    private int jump(int label) {
        next = code.placeOf(label);
        return RUNNING;
    }

    private int store(int k) {
        if (!roots.top.hasLocal(k)) {
            return PILE_END;
        }
        roots.top.put(k, roots.take());
        return RUNNING;
    }

    private int keep(int k) {
        roots.putGlobal(k, roots.take());
        return RUNNING;
    }

    private int print() {
        output.add(heap.outward(roots.take()));
        return RUNNING;
    }

    private int giveBack() {
        if (roots.top.below == null) {
            return HALTED;
        }
        next = roots.top.back;
        roots.leave();
        return RUNNING;
    }

    private int makeNew() {
        Thing made = heap.make(EMPTY_SIZE);
        if (made == null) {
            return ROOM_END;
        }
        made.parent = heap.thingOf(roots.fromAbove(0));
        return exchange(1, pack(KIND_OBJECT, made.index));
    }

    private int makeCopy() {
        Thing model = heap.thingOf(roots.fromAbove(0));
        if (model == null) {
            return WRONG_KIND;
        }
        Thing made = heap.make(model.size());
        if (made == null) {
            return ROOM_END;
        }
        made.copy(model);
        return exchange(1, pack(KIND_OBJECT, made.index));
    }

    private int get(Word word) {
        long taken = roots.fromAbove(0);
        Thing holder = finder(chainOf(taken), word.a);
        if (holder == null) {
            return NOT_FOUND;
        }
        remember(word, taken);
        return exchange(1, holder.valueOf(word.a));
    }

    private int set(int name) {
        Thing thing = heap.thingOf(roots.fromAbove(1));
        if (thing == null) {
            return WRONG_KIND;
        }
        int k = thing.indexOf(name);
        if (k == NONE) {
            heap.addSlot(thing, name, roots.fromAbove(0));
            thing.changed = steps + 1;
        } else {
            thing.values[k] = roots.fromAbove(0);
        }
        return letGo(2);
    }

    private int drop(int name) {
        Thing thing = heap.thingOf(roots.fromAbove(0));
        if (thing == null) {
            return WRONG_KIND;
        }
        int k = thing.indexOf(name);
        if (k == NONE) {
            return NOT_FOUND;
        }
        heap.removeSlot(thing, k);
        thing.changed = steps + 1;
        return letGo(1);
    }

    private int parent() {
        Thing thing = heap.thingOf(roots.fromAbove(0));
        return thing == null ? WRONG_KIND : exchange(1, valueOfThing(thing.parent));
    }

    private int adopt() {
        Thing thing = heap.thingOf(roots.fromAbove(1));
        Thing parent = heap.thingOf(roots.fromAbove(0));
        if (thing == null) {
            return WRONG_KIND;
        }
        for (Thing above = parent; above != null; above = above.parent) {
            if (above == thing) {
                return OWN_PARENT;
            }
        }
        if (thing.parent != parent) {
            thing.parent = parent;
            thing.changed = steps + 1;
        }
        return letGo(2);
    }

    private int proto(int kind) {
        roots.putProto(kind, heap.thingOf(roots.take()));
        return RUNNING;
    }

    private int send(Word word) {
        long receiver = roots.fromAbove(word.b);
        Thing holder = finder(chainOf(receiver), word.a);
        if (holder == null) {
            return NOT_FOUND;
        }
        long found = holder.valueOf(word.a);
        int end = kindOf(found) == KIND_METHOD ? call(receiver, numberOf(found), word.b) : answer(found, word.b);
        if (end == RUNNING) {
            remember(word, receiver);
        }
        return end;
    }

    private int call(long receiver, int place, int given) {
        Word entry = code.wordAt(place);
        if (entry.op != ENTER || entry.a != given) {
            return NO_CALL;
        }
        if (roots.frames >= MOST_FRAMES) {
            return PILE_END;
        }
        roots.enter(receiver, given, entry.a + entry.b, next);
        next = place + 1;
        return RUNNING;
    }

    private int answer(long found, int given) {
        return given == 0 ? exchange(1, found) : NO_CALL;
    }

    /** The first object of a value's chain. */
    private Thing chainOf(long value) {
        Thing thing = heap.thingOf(value);
        return thing == null ? roots.protoOf(kindOf(value)) : thing;
    }

    private static Thing finder(Thing first, int name) {
        for (Thing thing = first; thing != null; thing = thing.parent) {
            if (thing.indexOf(name) != NONE) {
                return thing;
            }
        }
        return null;
    }

    private void remember(Word word, long taken) {
        Thing thing = heap.thingOf(taken);
        Thing above = thing == null ? roots.protoOf(kindOf(taken)) : thing.parent;
        Memory memory = word.memory();
        if (memory.isOf(kindOf(taken), above, thing) && isUnchanged(above, memory.step)) {
            hits++;
        }
        memory.note(steps + 1, kindOf(taken), above, thing);
        siteSteps++;
    }

    private static boolean isUnchanged(Thing first, int since) {
        for (Thing thing = first; thing != null; thing = thing.parent) {
            if (thing.changed > since) {
                return false;
            }
        }
        return true;
    }

    private static int nearest(int n, int least, int most) {
        return Math.max(least, Math.min(most, n));
    }

    private static int serialOf(Thing thing) {
        return thing == null ? 0 : thing.serial;
    }

    /** A value in one number, so that two values are the SAME when their numbers are. */
    private static long pack(int kind, int number) {
        return (long) kind << 32 | number & 0xFFFFFFFFL;
    }

    private static long valueOfThing(Thing thing) {
        return thing == null ? NOTHING : pack(KIND_OBJECT, thing.index);
    }

    private static long truth(boolean is) {
        return pack(KIND_INT, is ? 1 : 0);
    }

    private static int kindOf(long value) {
        return (int) (value >>> 32);
    }

    private static int numberOf(long value) {
        return (int) value;
    }

    private static boolean isFalse(long value) {
        return value == NOTHING || value == pack(KIND_INT, 0);
    }

    private static boolean isAmong(long value, int kinds) {
        return (kinds >> kindOf(value) & 1) != 0;
    }

    private static int told(long outward, int what) {
        switch (what) {
            case 0: return kindOf(outward);
            case 1: return numberOf(outward);
            default: return BAD;
        }
    }

    /** A word of the code, with what it remembers as a site. */
    private static final class Word {
        int op;
        int a;
        int b;
        private Memory memory;

        Memory memory() {
            if (memory == null) {
                memory = new Memory();
            }
            return memory;
        }

        void forget() {
            if (memory != null) {
                memory.step = 0;
            }
        }

        int wanted() {
            switch (op) {
                case SEND: return b + 1;
                case SWAP:
                case ADD:
                case SUB:
                case MUL:
                case DIV:
                case REM:
                case LESS:
                case EQUAL:
                case SET:
                case ADOPT: return 2;
                case POP:
                case DUP:
                case UNLESS:
                case STORE:
                case KEEP:
                case NEW:
                case CLONE:
                case GET:
                case DROP:
                case HAS:
                case PARENT:
                case PROTO:
                case RETURN:
                case PRINT: return 1;
                default: return 0;
            }
        }

        int kindsAbove() {
            switch (op) {
                case ADD:
                case SUB:
                case MUL:
                case DIV:
                case REM:
                case LESS: return INTS;
                case CLONE:
                case DROP:
                case PARENT: return OBJECTS;
                case NEW:
                case ADOPT:
                case PROTO: return PARENTS;
                default: return ALL_KINDS;
            }
        }

        int kindsBelow() {
            switch (op) {
                case ADD:
                case SUB:
                case MUL:
                case DIV:
                case REM:
                case LESS: return INTS;
                case SET:
                case ADOPT: return OBJECTS;
                default: return ALL_KINDS;
            }
        }

        boolean isOperation() {
            return op >= HALT && op <= ENTER;
        }

        boolean isInRange() {
            if (a < (op == PUSH ? LEAST_INT : 0) || a > mostOfA() || b < 0 || b > mostOfB()) {
                return false;
            }
            if (op == PROTO) {
                return a != KIND_OBJECT;
            }
            return op != ENTER || a + b < LOCALS;
        }

        boolean goesToLabel() {
            return op == JUMP || op == UNLESS || op == METHOD;
        }

        private int mostOfA() {
            switch (op) {
                case PUSH: return MOST_INT;
                case LOCAL:
                case STORE:
                case ENTER: return LOCALS - 1;
                case GLOBAL:
                case KEEP: return GLOBALS - 1;
                case GET:
                case SET:
                case DROP:
                case HAS:
                case SEND: return NAMES - 1;
                case JUMP:
                case UNLESS:
                case METHOD:
                case LABEL: return LABELS - 1;
                case PROTO: return KIND_METHOD;
                default: return 0;
            }
        }

        private int mostOfB() {
            switch (op) {
                case SEND: return MOST_SENT;
                case ENTER: return LOCALS - 1;
                default: return 0;
            }
        }
    }

    /** What a site took at its latest step that ended well; serials stand for objects, which may be freed since. */
    private static final class Memory {
        int step;
        private int kind;
        private int above;
        private int count;
        private final byte[] names = new byte[MOST_SLOTS];

        boolean isOf(int takenKind, Thing takenAbove, Thing thing) {
            if (step == 0 || kind != takenKind || above != serialOf(takenAbove)) {
                return false;
            }
            return thing == null || hasNamesOf(thing);
        }

        void note(int takenStep, int takenKind, Thing takenAbove, Thing thing) {
            step = takenStep;
            kind = takenKind;
            above = serialOf(takenAbove);
            if (thing != null) {
                count = thing.count;
                System.arraycopy(thing.names, 0, names, 0, count);
            }
        }

        private boolean hasNamesOf(Thing thing) {
            if (count != thing.count) {
                return false;
            }
            for (int i = 0; i < count; i++) {
                if (names[i] != thing.names[i]) {
                    return false;
                }
            }
            return true;
        }
    }

    /** The words and the places of their labels. */
    private static final class Code {
        int size;
        int lastFault;
        private final Word[] words = new Word[MOST_WORDS];
        private final int[] places = new int[LABELS];
        // Behind the last word all is as a HALT.
        private final Word beyond = new Word();

        void add(int op, int a, int b) {
            if (size >= MOST_WORDS) {
                return;
            }
            if (words[size] == null) {
                words[size] = new Word();
            }
            Word word = words[size];
            word.op = op;
            word.a = a;
            word.b = b;
            size++;
        }

        Word wordAt(int place) {
            if (place < 0 || place >= size || words[place] == null) {
                return beyond;
            }
            return words[place];
        }

        int placeOf(int label) {
            return label >= 0 && label < LABELS ? places[label] : size;
        }

        void forgetAll() {
            for (int i = 0; i < size; i++) {
                wordAt(i).forget();
            }
        }

        int firstFault() {
            layLabels();
            for (int i = 0; i < size; i++) {
                lastFault = faultOf(wordAt(i), i);
                if (lastFault != 0) {
                    return i;
                }
            }
            lastFault = 0;
            return NONE;
        }

        private void layLabels() {
            Arrays.fill(places, NONE);
            for (int i = 0; i < size; i++) {
                Word word = wordAt(i);
                if (word.op == LABEL && word.isInRange() && placeOf(word.a) == NONE) {
                    places[word.a] = i + 1;
                }
            }
        }

        private int faultOf(Word word, int place) {
            if (!word.isOperation()) {
                return 1;
            }
            if (!word.isInRange()) {
                return 2;
            }
            if (word.op == LABEL && placeOf(word.a) != place + 1) {
                return 3;
            }
            return word.goesToLabel() && placeOf(word.a) == NONE ? 4 : 0;
        }
    }

    /** The values that OUT has, in which serials stand for objects: what is printed is not held. */
    private static final class Output {
        int count;
        final long[] values = new long[MOST_OUT];

        void add(long value) {
            if (count < MOST_OUT) {
                values[count] = value;
            }
            count++;
        }

        int kept() {
            return Math.min(count, MOST_OUT);
        }
    }

    /** What was called, or the code called by none; frames that are over stay above for the next call. */
    private static final class Frame {
        final Frame below;
        Frame above;
        int base;
        int back;
        private int count;
        final long[] values = new long[LOCALS + 1];

        Frame(Frame caller) {
            below = caller;
        }

        void begin(int locals, long self) {
            Arrays.fill(values, NOTHING);
            count = locals;
            values[SELF_AT] = self;
        }

        boolean hasLocal(int k) {
            return k >= 0 && k < count;
        }

        long valueAt(int k) {
            return k >= 0 && k <= SELF_AT ? values[k] : NOTHING;
        }

        void put(int k, long value) {
            if (hasLocal(k) && k < LOCALS) {
                values[k] = value;
            }
        }
    }

    /** All that holds objects: the pile, the frames, the globals and the protos. */
    private static final class Roots {
        int height;
        int frames;
        Frame top;
        final long[] values = new long[MOST_VALUES];
        final long[] globals = new long[GLOBALS];
        final Thing[] protos = new Thing[KIND_METHOD + 1];
        private final Frame first;

        Roots() {
            first = new Frame(null);
            top = first;
        }

        void clear() {
            height = 0;
            frames = 1;
            top = first;
            first.begin(LOCALS, NOTHING);
            Arrays.fill(globals, NOTHING);
            for (int i = 0; i < protos.length; i++) {
                protos[i] = null;
            }
        }

        int ofFrame() {
            return height - top.base;
        }

        long fromAbove(int k) {
            return k >= 0 && k < height ? values[height - 1 - k] : NOTHING;
        }

        boolean push(long value) {
            if (height >= MOST_VALUES) {
                return false;
            }
            values[height] = value;
            height++;
            return true;
        }

        long take() {
            long taken = fromAbove(0);
            lower(1);
            return taken;
        }

        void lower(int taken) {
            height = Math.max(0, height - taken);
        }

        void enter(long receiver, int given, int locals, int back) {
            if (top.above == null) {
                top.above = new Frame(top);
            }
            Frame frame = top.above;
            frame.begin(locals, receiver);
            for (int i = 0; i < given; i++) {
                frame.put(i, fromAbove(given - 1 - i));
            }
            lower(given + 1);
            frame.base = height;
            frame.back = back;
            top = frame;
            frames++;
        }

        void leave() {
            if (top.below == null) {
                return;
            }
            long answer = fromAbove(0);
            height = top.base;
            top = top.below;
            frames--;
            push(answer);
        }

        long globalAt(int k) {
            return k >= 0 && k < GLOBALS ? globals[k] : NOTHING;
        }

        void putGlobal(int k, long value) {
            if (k >= 0 && k < GLOBALS) {
                globals[k] = value;
            }
        }

        Thing protoOf(int kind) {
            return kind >= 0 && kind < protos.length ? protos[kind] : null;
        }

        void putProto(int kind, Thing proto) {
            if (kind >= 0 && kind < protos.length) {
                protos[kind] = proto;
            }
        }
    }

    /** An object. A freed one waits to be made anew, with another serial. */
    private static final class Thing {
        final int index;
        final byte[] names = new byte[MOST_SLOTS];
        final long[] values = new long[MOST_SLOTS];
        int serial;
        int count;
        int changed;
        Thing parent;
        boolean live;
        boolean old;
        boolean marked;
        // The next one of the spare, or of those to be looked into: none is ever both, for nothing holds a spare one.
        Thing waiting;

        Thing(int place) {
            index = place;
        }

        int size() {
            return EMPTY_SIZE + count;
        }

        int indexOf(int name) {
            for (int i = 0; i < count; i++) {
                if (names[i] == name) {
                    return i;
                }
            }
            return NONE;
        }

        long valueOf(int name) {
            int k = indexOf(name);
            return k == NONE ? NOTHING : values[k];
        }

        void copy(Thing model) {
            parent = model.parent;
            count = model.count;
            System.arraycopy(model.names, 0, names, 0, count);
            System.arraycopy(model.values, 0, values, 0, count);
        }
    }

    /** The nursery and the great room, and what frees objects in them. */
    private static final class Heap {
        int youngCells;
        int oldCells;
        int youngThings;
        int oldThings;
        int freed;
        int minors;
        int majors;
        int lastSerial;
        private final int nursery;
        private final int great;
        private final Roots roots;
        private final Thing[] pool;
        private int used;
        private Thing spare;
        private Thing pending;

        Heap(int nurseryCells, int greatCells, Roots held) {
            nursery = nurseryCells;
            great = greatCells;
            roots = held;
            pool = new Thing[nurseryCells / EMPTY_SIZE + greatCells / EMPTY_SIZE];
        }

        void clear() {
            youngCells = 0;
            oldCells = 0;
            youngThings = 0;
            oldThings = 0;
            freed = 0;
            minors = 0;
            majors = 0;
            lastSerial = 0;
            used = 0;
            spare = null;
        }

        Thing thingOf(long value) {
            int index = (int) value;
            return value >>> 32 == KIND_OBJECT && index >= 0 && index < used ? pool[index] : null;
        }

        /** The value as others see it: with an object's serial, not its index here. */
        long outward(long value) {
            Thing thing = thingOf(value);
            return thing == null ? value : pack(KIND_OBJECT, thing.serial);
        }

        /** The object of that serial, unless it is freed or was never made. */
        Thing withSerial(int serial) {
            for (int i = 0; i < used; i++) {
                Thing thing = pool[i];
                if (thing != null && thing.live && thing.serial == serial) {
                    return thing;
                }
            }
            return null;
        }

        /** A new object; its size of room is there already, in the great room if the nursery is too small. */
        Thing make(int size) {
            Thing thing = unused();
            if (thing == null) {
                return null;
            }
            lastSerial++;
            thing.serial = lastSerial;
            thing.count = 0;
            thing.changed = 0;
            thing.parent = null;
            thing.live = true;
            thing.old = size > youngLeft();
            admit(thing.old, 1, size);
            return thing;
        }

        void addSlot(Thing thing, int name, long value) {
            if (thing.count >= MOST_SLOTS) {
                return;
            }
            thing.names[thing.count] = (byte) name;
            thing.values[thing.count] = value;
            thing.count++;
            admit(thing.old, 0, 1);
        }

        void removeSlot(Thing thing, int k) {
            if (k < 0 || k >= thing.count) {
                return;
            }
            thing.count--;
            int behind = thing.count - k;
            System.arraycopy(thing.names, k + 1, thing.names, k, behind);
            System.arraycopy(thing.values, k + 1, thing.values, k, behind);
            admit(thing.old, 0, -1);
        }

        boolean hasRoomToMake(int size) {
            if (youngLeft() >= size) {
                return true;
            }
            if (minor() == NO_ROOM) {
                return false;
            }
            if (youngLeft() >= size) {
                return true;
            }
            if (oldLeft() < size) {
                major();
            }
            return oldLeft() >= size;
        }

        boolean hasRoomForSlot(Thing thing) {
            if (!thing.old && youngLeft() > 0) {
                return true;
            }
            if (!thing.old && minor() == NO_ROOM) {
                return false;
            }
            if (oldLeft() < 1) {
                major();
            }
            return oldLeft() >= 1;
        }

        /** Answers how many cells became old, or NO_ROOM. */
        int minor() {
            mark(true);
            if (youngMarked() > oldLeft()) {
                mark(false);
                freeUnmarked();
                mark(true);
            }
            int held = youngMarked();
            if (held > oldLeft()) {
                return NO_ROOM;
            }
            for (int i = 0; i < used; i++) {
                Thing thing = pool[i];
                if (thing != null && thing.live && !thing.old) {
                    leaveNursery(thing);
                }
            }
            minors++;
            return held;
        }

        /** Answers how many cells were freed. */
        int major() {
            mark(false);
            return freeUnmarked();
        }

        private int youngLeft() {
            return nursery - youngCells;
        }

        private int oldLeft() {
            return great - oldCells;
        }

        private int freeUnmarked() {
            int cells = 0;
            for (int i = 0; i < used; i++) {
                Thing thing = pool[i];
                if (thing != null && thing.live && !thing.marked) {
                    cells += thing.size();
                    free(thing);
                }
            }
            majors++;
            return cells;
        }

        private Thing unused() {
            Thing thing = spare;
            if (thing != null) {
                spare = thing.waiting;
                return thing;
            }
            if (used >= pool.length) {
                return null;
            }
            if (pool[used] == null) {
                pool[used] = new Thing(used);
            }
            used++;
            return pool[used - 1];
        }

        private void admit(boolean old, int things, int cells) {
            if (old) {
                oldThings += things;
                oldCells += cells;
            } else {
                youngThings += things;
                youngCells += cells;
            }
        }

        private void leaveNursery(Thing thing) {
            if (!thing.marked) {
                free(thing);
                return;
            }
            admit(false, -1, -thing.size());
            thing.old = true;
            admit(true, 1, thing.size());
        }

        private void free(Thing thing) {
            admit(thing.old, -1, -thing.size());
            freed++;
            thing.live = false;
            thing.waiting = spare;
            spare = thing;
        }

        private int youngMarked() {
            int cells = 0;
            for (int i = 0; i < used; i++) {
                Thing thing = pool[i];
                if (thing != null && thing.live && !thing.old && thing.marked) {
                    cells += thing.size();
                }
            }
            return cells;
        }

        /** Marks what can be come to from roots and, if told so, from old objects. */
        private void mark(boolean fromOld) {
            pending = null;
            for (int i = 0; i < used; i++) {
                Thing thing = pool[i];
                if (thing != null) {
                    thing.marked = false;
                }
            }
            reachRow(roots.values, roots.height);
            reachRow(roots.globals, GLOBALS);
            for (Frame frame = roots.top; frame != null; frame = frame.below) {
                reachRow(frame.values, frame.values.length);
            }
            for (int i = 0; i < roots.protos.length; i++) {
                reach(roots.protos[i]);
            }
            for (int i = 0; fromOld && i < used; i++) {
                Thing thing = pool[i];
                if (thing != null && thing.live && thing.old) {
                    reach(thing);
                }
            }
            // Each object waits here at most once.
            for (int i = 0; i < used && pending != null; i++) {
                Thing thing = pending;
                pending = thing.waiting;
                reach(thing.parent);
                reachRow(thing.values, thing.count);
            }
        }

        private void reachRow(long[] row, int count) {
            for (int i = 0; i < count && i < row.length; i++) {
                reach(thingOf(row[i]));
            }
        }

        private void reach(Thing thing) {
            if (thing != null && !thing.marked) {
                thing.marked = true;
                thing.waiting = pending;
                pending = thing;
            }
        }
    }
}
