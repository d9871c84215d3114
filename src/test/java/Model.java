import java.util.ArrayList;
import java.util.List;

/**
 * A second machine, written from the document sentence by sentence and without care for speed or the rules of
 * LANGUAGE.md, with which ModelTest compares the class. A value is an Integer, or a Thing of a class.
 */
public final class Model {

    private record Thing(int type) {
    }

    private static final class Kind {
        Kind parent;
        int number;
        Integer[] implemented = new Integer[6];

        Kind implementerOf(int selector) {
            if (implemented[selector] != null) {
                return this;
            }
            return parent == null ? null : parent.implementerOf(selector);
        }

        int understood(int selector) {
            Kind k = implementerOf(selector);
            return k == null ? -1 : k.implemented[selector];
        }

        int pathLength(int selector) {
            return implemented[selector] != null ? 1 : 1 + parent.pathLength(selector);
        }
    }

    private record Note(List<Integer> classes, boolean crowded) {
        static final Note EMPTY = new Note(List.of(), false);

        Note with(int type) {
            if (classes.contains(type)) {
                return this;
            }
            if (classes.size() == 3) {
                return new Note(classes, true);
            }
            List<Integer> more = new ArrayList<>(classes);
            more.add(type);
            return new Note(List.copyOf(more), crowded);
        }
    }

    private static final class Op {
        int kind;
        int a;
        int b;
        int c;
        int d;
        Note note = Note.EMPTY;
        Note trusted;
    }

    private static final class Routine {
        List<Op> ops = new ArrayList<>();
        int tier;
        int heat;
        int disappointments;
    }

    private static final class Activation {
        Routine routine;
        Object[] registers = {0, 0, 0, 0};
        int at;
        int tier;
        int resultRegister;
    }

    private static final class Failure extends RuntimeException {
        private static final long serialVersionUID = 1;
        final int error;

        Failure(int error) {
            this.error = error;
        }
    }

    private final List<Kind> kinds = new ArrayList<>();
    private final List<Routine> routines = new ArrayList<>();
    private int first = 5;
    private int second = 20;
    private int budget = 2;
    private final List<Activation> stack = new ArrayList<>();
    private Object result;
    private int error;
    private long cost;
    private int steps;
    private int depth;
    private final long[] totals = new long[4];

    private static void index(boolean good) {
        if (!good) {
            throw new IndexOutOfBoundsException();
        }
    }

    private static void argument(boolean good) {
        if (!good) {
            throw new IllegalArgumentException();
        }
    }

    private static void state(boolean good) {
        if (!good) {
            throw new IllegalStateException();
        }
    }

    private static boolean in(int low, int x, int high) {
        return low <= x && x <= high;
    }

    private Routine routine(int method) {
        index(in(0, method, routines.size() - 1));
        return routines.get(method);
    }

    private Kind kind(int type, int selector) {
        index(in(0, type, kinds.size() - 1) && in(0, selector, 5));
        return kinds.get(type);
    }

    public int addClass(int parent) {
        index(in(-1, parent, kinds.size() - 1));
        state(kinds.size() < 8);
        Kind k = new Kind();
        k.parent = parent == -1 ? null : kinds.get(parent);
        k.number = kinds.size();
        kinds.add(k);
        return k.number;
    }

    public int addMethod() {
        state(routines.size() < 12);
        routines.add(new Routine());
        return routines.size() - 1;
    }

    public int append(int method, int kind, int a, int b, int c, int d) {
        Routine r = routine(method);
        argument(in(0, kind, 8));
        String[] operands = {"r", "rrr", "rrr", "rrr", "rk", "rsrr", "rrp", "p", "r"};
        int[] given = {a, b, c, d};
        for (int i = 0; i < operands[kind].length(); i++) {
            switch (operands[kind].charAt(i)) {
                case 'r' -> argument(in(0, given[i], 3));
                case 'k' -> argument(in(0, given[i], kinds.size() - 1));
                case 's' -> argument(in(0, given[i], 5));
                default -> argument(in(0, given[i], 20));
            }
        }
        state(r.ops.size() < 20);
        Op op = new Op();
        op.kind = kind;
        op.a = a;
        op.b = b;
        op.c = c;
        op.d = d;
        r.ops.add(op);
        lose(r);
        return r.ops.size() - 1;
    }

    private static void lose(Routine r) {
        r.tier = 0;
        r.heat = 0;
        r.disappointments = 0;
        r.ops.forEach(op -> op.note = Note.EMPTY);
    }

    public int implement(int type, int selector, int method) {
        Kind changed = kind(type, selector);
        index(method == -1 || in(0, method, routines.size() - 1));
        List<Integer> before = kinds.stream().map(k -> k.understood(selector)).toList();
        changed.implemented[selector] = method == -1 ? null : method;
        List<Integer> after = kinds.stream().map(k -> k.understood(selector)).toList();
        int count = 0;
        for (Routine r : routines) {
            boolean hit = r.tier == 2 && r.ops.stream().anyMatch(op -> op.kind == 5 && op.b == selector
                && !op.trusted.crowded()
                && op.trusted.classes().stream().anyMatch(t -> !before.get(t).equals(after.get(t))));
            if (hit) {
                r.tier = 0;
                r.heat = 0;
                count++;
            }
        }
        return count;
    }

    public int understands(int type, int selector) {
        return kind(type, selector).understood(selector);
    }

    public boolean setPolicy(int newFirst, int newSecond, int newBudget) {
        argument(in(1, newFirst, 1000) && in(1, newSecond, 1000) && in(0, newBudget, 5));
        boolean same = first == newFirst && second == newSecond && budget == newBudget;
        first = newFirst;
        second = newSecond;
        budget = newBudget;
        return !same;
    }

    public int forget() {
        int count = (int) routines.stream().filter(r -> r.tier > 0).count();
        routines.forEach(Model::lose);
        return count;
    }

    public int run(int method, int argument, int limit) {
        Routine r = routine(method);
        argument(in(0, limit, 2000));
        stack.clear();
        result = null;
        error = 0;
        cost = 0;
        steps = 0;
        depth = 0;
        begin(r).registers[0] = argument;
        try {
            while (!stack.isEmpty() && steps < limit) {
                Activation top = stack.get(stack.size() - 1);
                if (top.at >= top.routine.ops.size()) {
                    finish(0);
                } else {
                    steps++;
                    instruction(top, top.routine.ops.get(top.at));
                }
            }
        } catch (Failure f) {
            error = f.error;
            return 2;
        }
        return stack.isEmpty() ? 0 : 1;
    }

    private Activation begin(Routine r) {
        Activation x = new Activation();
        x.routine = r;
        warm(r);
        x.tier = r.tier;
        stack.add(x);
        depth = Math.max(depth, stack.size());
        return x;
    }

    private void finish(Object value) {
        stack.remove(stack.size() - 1);
        if (stack.isEmpty()) {
            result = value;
        } else {
            Activation top = stack.get(stack.size() - 1);
            top.registers[top.resultRegister] = value;
        }
    }

    private void warm(Routine r) {
        r.heat++;
        if (r.tier == 0 && r.heat >= first) {
            r.tier = 1;
            cost += 20L * r.ops.size();
            totals[0]++;
        }
        if (r.tier == 1 && r.heat >= second && r.disappointments < budget) {
            r.tier = 2;
            cost += 50L * r.ops.size();
            totals[1]++;
            r.ops.forEach(op -> op.trusted = op.note);
        }
    }

    private static int number(Object value) {
        if (value instanceof Integer i) {
            return i;
        }
        throw new Failure(1);
    }

    private void instruction(Activation x, Op op) {
        cost += new int[] {10, 4, 1}[x.tier];
        Object[] r = x.registers;
        int target = -1;
        switch (op.kind) {
            case 0 -> r[op.a] = op.b;
            case 1 -> r[op.a] = number(r[op.b]) + number(r[op.c]);
            case 2 -> r[op.a] = number(r[op.b]) - number(r[op.c]);
            case 3 -> r[op.a] = number(r[op.b]) * number(r[op.c]);
            case 4 -> r[op.a] = new Thing(op.b);
            case 5 -> send(x, op);
            case 6 -> target = number(r[op.a]) < number(r[op.b]) ? op.c : -1;
            case 7 -> target = op.a;
            default -> {
                finish(r[op.a]);
                return;
            }
        }
        if (target >= 0 && target <= x.at) {
            warm(x.routine);
            if (x.routine.tier > x.tier) {
                x.tier = x.routine.tier;
                totals[3]++;
            }
        }
        x.at = target >= 0 ? target : x.at + 1;
    }

    private void send(Activation x, Op op) {
        if (!(x.registers[op.c] instanceof Thing thing)) {
            throw new Failure(1);
        }
        Kind k = kinds.get(thing.type());
        int called = k.understood(op.b);
        if (called == -1) {
            throw new Failure(2);
        }
        int known = x.tier == 2 ? op.trusted.classes().indexOf(thing.type()) : -1;
        if (x.tier < 2) {
            op.note = op.note.with(thing.type());
            cost += k.pathLength(op.b);
        } else if (op.trusted.crowded()) {
            cost += k.pathLength(op.b);
        } else if (known >= 0) {
            cost += known;
        } else {
            op.note = op.note.with(thing.type());
            x.routine.disappointments++;
            totals[2]++;
            x.routine.tier = 0;
            x.routine.heat = 0;
            stack.stream().filter(y -> y.routine == x.routine).forEach(y -> y.tier = 0);
            cost += k.pathLength(op.b);
        }
        if (stack.size() == 20) {
            throw new Failure(3);
        }
        x.resultRegister = op.a;
        Activation y = begin(routines.get(called));
        y.registers[0] = x.registers[op.d];
        y.registers[1] = thing;
    }

    public int result() {
        return result instanceof Integer i ? i : 0;
    }

    public int resultClass() {
        return result instanceof Thing t ? t.type() : -1;
    }

    public int error() {
        return error;
    }

    public long cost() {
        return cost;
    }

    public int steps() {
        return steps;
    }

    public int depth() {
        return depth;
    }

    public long total(int what) {
        index(in(0, what, 3));
        return totals[what];
    }

    public int tier(int method) {
        return routine(method).tier;
    }

    public int heat(int method) {
        return routine(method).heat;
    }

    public int disappointments(int method) {
        return routine(method).disappointments;
    }

    private Note note(int method, int place) {
        Routine r = routine(method);
        index(in(0, place, r.ops.size() - 1));
        index(r.ops.get(place).kind == 5);
        return r.ops.get(place).note;
    }

    public int met(int method, int place) {
        Note n = note(method, place);
        return n.crowded() ? 4 : n.classes().size();
    }

    public int metClass(int method, int place, int index) {
        Note n = note(method, place);
        index(in(0, index, n.classes().size() - 1));
        return n.classes().get(index);
    }

    public long digest() {
        List<Long> numbers = new ArrayList<>();
        numbers.add((long) kinds.size());
        numbers.add((long) routines.size());
        for (int m = 0; m < routines.size(); m++) {
            Routine r = routines.get(m);
            numbers.addAll(List.of((long) r.ops.size(), (long) r.tier, (long) r.heat, (long) r.disappointments));
            for (int place = 0; place < r.ops.size(); place++) {
                if (r.ops.get(place).kind == 5) {
                    numbers.add((long) met(m, place));
                }
            }
        }
        numbers.addAll(List.of(cost, (long) steps, (long) error));
        long d = 97;
        for (long x : numbers) {
            d = d * 31 + x;
        }
        return d;
    }
}
