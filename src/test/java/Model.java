import java.util.ArrayDeque;
import java.util.ArrayList;
import java.util.Collection;
import java.util.HashMap;
import java.util.HashSet;
import java.util.LinkedHashMap;
import java.util.List;
import java.util.Map;
import java.util.Set;

/**
 * The document written a second time, as plainly as the Java library allows and with no care for speed,
 * so that the machine can be held against it. Values are null, Integer, Body and Place.
 */
final class Model {
    record Place(int at) {
    }

    record Word(int op, int a, int b) {
    }

    /** What a site remembers: a step, a kind, a parent or proto, and an object's names. */
    record Memory(int step, int kind, Body above, List<Integer> names) {
    }

    record Change(int step, Body body) {
    }

    static final class Body {
        int serial;
        Body parent;
        int where;
        int changed;
        LinkedHashMap<Integer, Object> slots = new LinkedHashMap<>();

        int size() {
            return 3 + slots.size();
        }
    }

    static final class Frame {
        Object self;
        int base;
        int back;
        Object[] locals;
    }

    static final class End extends RuntimeException {
        private static final long serialVersionUID = 1L;
        final int end;

        End(int reason) {
            super(null, null, false, false);
            end = reason;
        }
    }

    final int nursery;
    final int great;
    final List<Word> words = new ArrayList<>();
    final Map<Integer, Integer> labels = new HashMap<>();
    final List<Body> bodies = new ArrayList<>();
    final List<Object> pile = new ArrayList<>();
    final List<Frame> frames = new ArrayList<>();
    final Object[] globals = new Object[16];
    final Body[] protos = new Body[4];
    final List<Object> out = new ArrayList<>();
    final Map<Integer, Memory> sites = new HashMap<>();
    final List<Change> changes = new ArrayList<>();
    int state;
    int at;
    int next;
    int steps;
    int minors;
    int majors;
    int hits;
    int siteSteps;

    Model(int nurseryCells, int greatCells) {
        nursery = nurseryCells;
        great = greatCells;
    }

    void link() {
        for (int i = 0; i < words.size(); i++) {
            if (words.get(i).op() == 33) {
                labels.put(words.get(i).a(), i + 1);
            }
        }
        Frame first = new Frame();
        first.locals = new Object[16];
        frames.add(first);
    }

    static int kind(Object value) {
        return value == null ? 0 : value instanceof Integer ? 1 : value instanceof Body ? 2 : 3;
    }

    static int number(Object value) {
        if (value == null) {
            return 0;
        }
        if (value instanceof Body body) {
            return body.serial;
        }
        return value instanceof Integer n ? n : ((Place) value).at();
    }

    static boolean same(Object one, Object other) {
        return kind(one) == kind(other) && number(one) == number(other);
    }

    int step() {
        if (state != 0) {
            return state;
        }
        Word word = at < words.size() ? words.get(at) : new Word(0, 0, 0);
        next = at + 1;
        try {
            carryOut(word.op(), word.a(), word.b());
            steps++;
            at = next;
        } catch (End end) {
            state = end.end;
            if (state == 1) {
                steps++;
            }
        }
        return state;
    }

    private Frame top() {
        return frames.get(frames.size() - 1);
    }

    private Object peek(int k) {
        return pile.get(pile.size() - 1 - k);
    }

    private void want(int n) {
        if (pile.size() - top().base < n) {
            throw new End(5);
        }
    }

    private void drop(int n) {
        for (int i = 0; i < n; i++) {
            pile.remove(pile.size() - 1);
        }
    }

    private void come(Object value) {
        if (pile.size() == 1000) {
            throw new End(5);
        }
        pile.add(value);
    }

    private void instead(int n, Object value) {
        drop(n);
        pile.add(value);
    }

    private Body body(Object value) {
        if (value instanceof Body body) {
            return body;
        }
        throw new End(3);
    }

    private Body bodyOrNil(Object value) {
        return value == null ? null : body(value);
    }

    private void carryOut(int op, int a, int b) {
        switch (op) {
            case 0 -> throw new End(1);
            case 1 -> come(a);
            case 2 -> come(null);
            case 3 -> {
                want(1);
                drop(1);
            }
            case 4 -> {
                want(1);
                come(peek(0));
            }
            case 5 -> {
                want(2);
                Object upper = peek(0);
                Object lower = peek(1);
                drop(2);
                pile.add(upper);
                pile.add(lower);
            }
            case 6, 7, 8, 9, 10, 11 -> reckon(op);
            case 12 -> {
                want(2);
                instead(2, same(peek(0), peek(1)) ? 1 : 0);
            }
            case 13 -> next = labels.get(a);
            case 14 -> {
                want(1);
                if (peek(0) == null || same(peek(0), 0)) {
                    next = labels.get(a);
                }
                drop(1);
            }
            case 15 -> {
                if (a >= top().locals.length) {
                    throw new End(5);
                }
                come(top().locals[a]);
            }
            case 16 -> {
                want(1);
                if (a >= top().locals.length) {
                    throw new End(5);
                }
                top().locals[a] = peek(0);
                drop(1);
            }
            case 17 -> come(globals[a]);
            case 18 -> {
                want(1);
                globals[a] = peek(0);
                drop(1);
            }
            case 28 -> come(new Place(labels.get(a)));
            case 30 -> come(top().self);
            case 31 -> giveBack();
            case 32 -> {
                want(1);
                out.add(peek(0));
                drop(1);
            }
            case 33, 34 -> { }
            default -> onObjects(op, a, b);
        }
    }

    private void onObjects(int op, int a, int b) {
        switch (op) {
            case 19 -> {
                want(1);
                Body parent = bodyOrNil(peek(0));
                instead(1, make(parent, new LinkedHashMap<>()));
            }
            case 20 -> {
                want(1);
                Body from = body(peek(0));
                instead(1, make(from.parent, from.slots));
            }
            case 21 -> {
                want(1);
                Object taken = peek(0);
                Body holder = find(taken, a);
                remember(taken);
                instead(1, holder.slots.get(a));
            }
            case 22 -> set(a);
            case 23 -> {
                want(1);
                Body from = body(peek(0));
                if (!from.slots.containsKey(a)) {
                    throw new End(2);
                }
                from.slots.remove(a);
                changed(from);
                drop(1);
            }
            case 24 -> {
                want(1);
                boolean has = chain(peek(0)).stream().anyMatch(each -> each.slots.containsKey(a));
                instead(1, has ? 1 : 0);
            }
            case 25 -> {
                want(1);
                instead(1, body(peek(0)).parent);
            }
            case 26 -> {
                want(2);
                Body child = body(peek(1));
                Body parent = bodyOrNil(peek(0));
                if (chain(parent).contains(child) && parent != null) {
                    throw new End(9);
                }
                if (child.parent != parent) {
                    child.parent = parent;
                    changed(child);
                }
                drop(2);
            }
            case 27 -> {
                want(1);
                protos[a] = bodyOrNil(peek(0));
                drop(1);
            }
            case 29 -> send(a, b);
            default -> throw new IllegalStateException("operation " + op);
        }
    }

    private void reckon(int op) {
        want(2);
        if (!(peek(1) instanceof Integer one) || !(peek(0) instanceof Integer two)) {
            throw new End(3);
        }
        if ((op == 9 || op == 10) && two == 0) {
            throw new End(4);
        }
        long first = one;
        long second = two;
        long result = switch (op) {
            case 6 -> first + second;
            case 7 -> first - second;
            case 8 -> first * second;
            case 9 -> first / second;
            case 10 -> first % second;
            default -> first < second ? 1 : 0;
        };
        if (result < -1073741824 || result > 1073741823) {
            throw new End(6);
        }
        instead(2, (int) result);
    }

    private void giveBack() {
        want(1);
        if (frames.size() == 1) {
            throw new End(1);
        }
        Object answer = peek(0);
        Frame over = frames.remove(frames.size() - 1);
        while (pile.size() > over.base) {
            drop(1);
        }
        pile.add(answer);
        next = over.back;
    }

    private void set(int name) {
        want(2);
        Body into = body(peek(1));
        Object value = peek(0);
        if (!into.slots.containsKey(name)) {
            if (into.slots.size() == 40) {
                throw new End(10);
            }
            if (into.where == 0 && cells(0) == nursery && minor() < 0) {
                throw new End(8);
            }
            if (into.where == 1 && cells(1) == great) {
                major();
                if (cells(1) == great) {
                    throw new End(8);
                }
            }
            changed(into);
        }
        into.slots.put(name, value);
        drop(2);
    }

    private void send(int name, int given) {
        want(given + 1);
        Object receiver = peek(given);
        Object found = find(receiver, name).slots.get(name);
        if (found instanceof Place place) {
            Word entry = place.at() < words.size() ? words.get(place.at()) : new Word(0, 0, 0);
            if (entry.op() != 34 || entry.a() != given) {
                throw new End(7);
            }
            if (frames.size() == 200) {
                throw new End(5);
            }
            remember(receiver);
            Frame frame = new Frame();
            frame.self = receiver;
            frame.locals = new Object[entry.a() + entry.b()];
            for (int i = 0; i < given; i++) {
                frame.locals[i] = peek(given - 1 - i);
            }
            drop(given + 1);
            frame.base = pile.size();
            frame.back = next;
            frames.add(frame);
            next = place.at() + 1;
        } else if (given != 0) {
            throw new End(7);
        } else {
            remember(receiver);
            instead(1, found);
        }
    }

    private List<Body> chain(Object value) {
        List<Body> all = new ArrayList<>();
        Body first = value instanceof Body body ? body : protos[kind(value)];
        for (Body each = first; each != null; each = each.parent) {
            all.add(each);
        }
        return all;
    }

    private Body find(Object value, int name) {
        for (Body each : chain(value)) {
            if (each.slots.containsKey(name)) {
                return each;
            }
        }
        throw new End(2);
    }

    private void changed(Body body) {
        body.changed = steps + 1;
        changes.add(new Change(steps + 1, body));
    }

    private void remember(Object taken) {
        Body above = taken instanceof Body body ? body.parent : protos[kind(taken)];
        List<Integer> names = taken instanceof Body body ? new ArrayList<>(body.slots.keySet()) : List.of();
        Memory before = sites.get(at);
        if (before != null && before.kind() == kind(taken) && before.above() == above && before.names().equals(names)) {
            List<Body> rest = chain(taken);
            rest.remove(taken);
            boolean still = changes.stream()
                .noneMatch(change -> change.step() > before.step() && rest.contains(change.body()));
            hits += still ? 1 : 0;
        }
        sites.put(at, new Memory(steps + 1, kind(taken), above, names));
        siteSteps++;
    }

    int cells(int where) {
        return bodies.stream().filter(each -> each.where == where).mapToInt(Body::size).sum();
    }

    int count(int where) {
        return (int) bodies.stream().filter(each -> each.where == where).count();
    }

    private Body make(Body parent, Map<Integer, Object> slots) {
        int size = 3 + slots.size();
        int where = 0;
        if (nursery - cells(0) < size) {
            if (minor() < 0) {
                throw new End(8);
            }
            if (size > nursery) {
                where = 1;
                if (great - cells(1) < size) {
                    major();
                }
                if (great - cells(1) < size) {
                    throw new End(8);
                }
            }
        }
        Body made = new Body();
        made.parent = parent;
        made.where = where;
        made.slots.putAll(slots);
        bodies.add(made);
        made.serial = bodies.size();
        return made;
    }

    private Set<Body> reachable(Collection<Body> besides) {
        ArrayDeque<Object> waiting = new ArrayDeque<>(besides);
        List<Object> roots = new ArrayList<>(pile);
        roots.addAll(java.util.Arrays.asList(globals));
        roots.addAll(java.util.Arrays.asList((Object[]) protos));
        for (Frame frame : frames) {
            roots.add(frame.self);
            roots.addAll(java.util.Arrays.asList(frame.locals));
        }
        roots.stream().filter(each -> each instanceof Body).forEach(waiting::add);
        Set<Body> found = new HashSet<>();
        while (!waiting.isEmpty()) {
            Body each = (Body) waiting.remove();
            if (!found.add(each)) {
                continue;
            }
            if (each.parent != null) {
                waiting.add(each.parent);
            }
            each.slots.values().stream().filter(value -> value instanceof Body).forEach(waiting::add);
        }
        return found;
    }

    private List<Body> held() {
        Set<Body> found = reachable(bodies.stream().filter(each -> each.where == 1).toList());
        return found.stream().filter(each -> each.where == 0).toList();
    }

    private static int sizes(Collection<Body> all) {
        return all.stream().mapToInt(Body::size).sum();
    }

    int minor() {
        List<Body> held = held();
        if (great - cells(1) < sizes(held)) {
            major();
            held = held();
            if (great - cells(1) < sizes(held)) {
                return -3;
            }
        }
        int cells = sizes(held);
        Set<Body> stay = new HashSet<>(held);
        for (Body each : bodies) {
            if (each.where == 0) {
                each.where = stay.contains(each) ? 1 : 2;
            }
        }
        minors++;
        return cells;
    }

    int major() {
        Set<Body> found = reachable(List.of());
        int cells = 0;
        for (Body each : bodies) {
            if (each.where != 2 && !found.contains(each)) {
                each.where = 2;
                cells += each.size();
            }
        }
        majors++;
        return cells;
    }

    int many(int what) {
        int[] all = {cells(0), cells(1), count(0), count(1), count(2), minors, majors, hits, siteSteps, steps,
            at, pile.size(), frames.size(), words.size()};
        return all[what];
    }
}
