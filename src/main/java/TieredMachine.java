import java.util.ArrayList;
import java.util.Arrays;

/**
 * A manager of tiered execution for a small language of classes and methods. The document
 * ../shared/DOC.md says what each call answers; the words here (record, trusted, disappointed,
 * warm) are the document's own.
 */
public final class TieredMachine {

    private static final int NONE = -1;

    private static final int MAX_CLASSES = 8;
    private static final int SELECTORS = 6;
    private static final int MAX_METHODS = 12;
    private static final int MAX_INSTRUCTIONS = 20;
    private static final int REGISTERS = 4;
    private static final int MAX_MET = 3;
    private static final int MAX_RUNNING = 20;
    private static final int MAX_THRESHOLD = 1000;
    private static final int MAX_BUDGET = 5;
    private static final int MAX_STEPS = 2000;

    private static final int SET = 0;
    private static final int ADD = 1;
    private static final int SUB = 2;
    private static final int MUL = 3;
    private static final int NEW = 4;
    private static final int SEND = 5;
    private static final int LESS = 6;
    private static final int JUMP = 7;
    private static final int RETURN = 8;

    private static final int INTERPRETED = 0;
    private static final int COMPILED = 1;
    private static final int TRUSTING = 2;

    private static final int FIRST_COMPILATION_COST = 20;
    private static final int SECOND_COMPILATION_COST = 50;

    private static final int ENDED_WITH_RESULT = 0;
    private static final int ENDED_BY_STEPS = 1;
    private static final int ENDED_WITH_ERROR = 2;

    private static final int WRONG_VALUE = 1;
    private static final int NOT_UNDERSTOOD = 2;
    private static final int TOO_DEEP = 3;

    private static final int FIRST_COMPILATIONS = 0;
    private static final int SECOND_COMPILATIONS = 1;
    private static final int DISAPPOINTMENTS = 2;
    private static final int SWITCHES = 3;
    private static final int TOTALS = 4;

    private static final long DIGEST_START = 97;
    private static final long DIGEST_FACTOR = 31;

    private final Hierarchy hierarchy;
    private final ArrayList<Method> methods;

    private int firstThreshold;
    private int secondThreshold;
    private int budget;

    private final Frame[] frames;
    private int running;

    private int resultValue;
    private int resultType;
    private int errorCode;
    private long costCount;
    private int stepCount;
    private int greatestDepth;
    private final long[] totals;

    public TieredMachine() {
        hierarchy = new Hierarchy();
        methods = new ArrayList<Method>();
        firstThreshold = 5;
        secondThreshold = 20;
        budget = 2;
        frames = new Frame[MAX_RUNNING];
        for (int i = 0; i < MAX_RUNNING; i++) {
            frames[i] = new Frame();
        }
        resultType = NONE;
        totals = new long[TOTALS];
    }

    // ---- program

    public int addClass(int parent) throws IndexOutOfBoundsException, IllegalStateException {
        if (parent != NONE && !hierarchy.hasClass(parent)) {
            throw new IndexOutOfBoundsException("no such parent");
        }
        if (hierarchy.count >= MAX_CLASSES) {
            throw new IllegalStateException("too many classes");
        }
        return hierarchy.addChild(parent);
    }

    public int addMethod() throws IllegalStateException {
        if (methods.size() >= MAX_METHODS) {
            throw new IllegalStateException("too many methods");
        }
        methods.add(new Method());
        return methods.size() - 1;
    }

    public int append(int method, int kind, int a, int b, int c, int d)
            throws IndexOutOfBoundsException, IllegalArgumentException, IllegalStateException {
        Method changed = existingMethod(method);
        if (!fits(kind, a, b, c, d)) {
            throw new IllegalArgumentException("no such instruction");
        }
        if (changed.length() >= MAX_INSTRUCTIONS) {
            throw new IllegalStateException("too many instructions");
        }
        changed.code.add(new Instruction(kind, a, b, c, d));
        changed.unlearn();
        return changed.length() - 1;
    }

    public int implement(int type, int selector, int method) throws IndexOutOfBoundsException {
        checkClassAndSelector(type, selector);
        if (method != NONE) {
            existingMethod(method);
        }
        hierarchy.setImplementer(type, selector, method);
        int fallen = 0;
        for (int i = 0; i < methods.size(); i++) {
            Method each = methods.get(i);
            if (each.tier == TRUSTING && each.hasTrustingSend(selector, hierarchy)) {
                each.cool();
                fallen++;
            }
        }
        return fallen;
    }

    public int understands(int type, int selector) throws IndexOutOfBoundsException {
        checkClassAndSelector(type, selector);
        return hierarchy.understood(type, selector);
    }

    public boolean setPolicy(int first, int second, int budget) throws IllegalArgumentException {
        if (!isThreshold(first) || !isThreshold(second) || budget < 0 || budget > MAX_BUDGET) {
            throw new IllegalArgumentException("no such policy");
        }
        boolean another = first != firstThreshold || second != secondThreshold || budget != this.budget;
        firstThreshold = first;
        secondThreshold = second;
        this.budget = budget;
        return another;
    }

    public int forget() {
        int compiled = 0;
        for (int i = 0; i < methods.size(); i++) {
            Method each = methods.get(i);
            if (each.tier > INTERPRETED) {
                compiled++;
            }
            each.unlearn();
        }
        return compiled;
    }

    // ---- execution

    public int run(int method, int argument, int steps)
            throws IndexOutOfBoundsException, IllegalArgumentException {
        existingMethod(method);
        if (steps < 0 || steps > MAX_STEPS) {
            throw new IllegalArgumentException("steps out of range");
        }
        clearOutcome();
        begin(method).setInt(0, argument);
        for (int done = 0; done < steps; done++) {
            endFinishedMethods();
            if (running == 0) {
                return ENDED_WITH_RESULT;
            }
            doInstruction(frames[running - 1]);
            if (errorCode != 0) {
                return ENDED_WITH_ERROR;
            }
            if (running == 0) {
                return ENDED_WITH_RESULT;
            }
        }
        return ENDED_BY_STEPS;
    }

    public int result() {
        return resultValue;
    }

    public int resultClass() {
        return resultType;
    }

    public int error() {
        return errorCode;
    }

    public long cost() {
        return costCount;
    }

    public int steps() {
        return stepCount;
    }

    public int depth() {
        return greatestDepth;
    }

    public long total(int what) throws IndexOutOfBoundsException {
        if (what < 0 || what >= TOTALS) {
            throw new IndexOutOfBoundsException("no such total");
        }
        return totals[what];
    }

    // ---- methods

    public int tier(int method) throws IndexOutOfBoundsException {
        return existingMethod(method).tier;
    }

    public int heat(int method) throws IndexOutOfBoundsException {
        return existingMethod(method).heat;
    }

    public int disappointments(int method) throws IndexOutOfBoundsException {
        return existingMethod(method).disappointments;
    }

    public int met(int method, int place) throws IndexOutOfBoundsException {
        return existingRecord(method, place).told();
    }

    public int metClass(int method, int place, int index) throws IndexOutOfBoundsException {
        Meetings record = existingRecord(method, place);
        if (index < 0 || index >= record.count) {
            throw new IndexOutOfBoundsException("no such index");
        }
        return record.types[index];
    }

    public long digest() {
        long d = DIGEST_START;
        d = d * DIGEST_FACTOR + hierarchy.count;
        d = d * DIGEST_FACTOR + methods.size();
        for (int i = 0; i < methods.size(); i++) {
            d = methods.get(i).mixInto(d);
        }
        d = d * DIGEST_FACTOR + costCount;
        d = d * DIGEST_FACTOR + stepCount;
        return d * DIGEST_FACTOR + errorCode;
    }

    // ---- tests of arguments

    private Method existingMethod(int method) {
        if (method < 0 || method >= methods.size()) {
            throw new IndexOutOfBoundsException("no such method");
        }
        return methods.get(method);
    }

    private Meetings existingRecord(int method, int place) {
        Method owner = existingMethod(method);
        if (!owner.hasPlace(place) || owner.code.get(place).kind != SEND) {
            throw new IndexOutOfBoundsException("no SEND at this place");
        }
        return owner.code.get(place).met;
    }

    private void checkClassAndSelector(int type, int selector) {
        if (!hierarchy.hasClass(type) || !isSelector(selector)) {
            throw new IndexOutOfBoundsException("no such class or selector");
        }
    }

    private boolean fits(int kind, int a, int b, int c, int d) {
        switch (kind) {
            case SET:
            case RETURN:
                return isRegister(a);
            case ADD:
            case SUB:
            case MUL:
                return isRegister(a) && isRegister(b) && isRegister(c);
            case NEW:
                return isRegister(a) && hierarchy.hasClass(b);
            case SEND:
                return isRegister(a) && isSelector(b) && isRegister(c) && isRegister(d);
            case LESS:
                return isRegister(a) && isRegister(b) && isPlace(c);
            case JUMP:
                return isPlace(a);
            default:
                return false;
        }
    }

    private static boolean isRegister(int operand) {
        return operand >= 0 && operand < REGISTERS;
    }

    private static boolean isSelector(int operand) {
        return operand >= 0 && operand < SELECTORS;
    }

    /** A jump may also go to the place behind a full method's last instruction. */
    private static boolean isPlace(int operand) {
        return operand >= 0 && operand <= MAX_INSTRUCTIONS;
    }

    private static boolean isThreshold(int threshold) {
        return threshold >= 1 && threshold <= MAX_THRESHOLD;
    }

    // ---- the steps of an execution

    private void clearOutcome() {
        running = 0;
        resultValue = 0;
        resultType = NONE;
        errorCode = 0;
        costCount = 0;
        stepCount = 0;
        greatestDepth = 0;
    }

    /** The caller has seen that the method exists and that the stack has room. */
    private Frame begin(int number) {
        Method method = methods.get(number);
        warm(method);
        Frame frame = frames[running];
        frame.start(number, method.tier);
        running++;
        greatestDepth = Math.max(greatestDepth, running);
        return frame;
    }

    private void warm(Method method) {
        method.heat++;
        if (method.tier == INTERPRETED && method.heat >= firstThreshold) {
            method.tier = COMPILED;
            costCount += FIRST_COMPILATION_COST * method.length();
            totals[FIRST_COMPILATIONS]++;
        }
        if (method.tier == COMPILED && method.heat >= secondThreshold && method.disappointments < budget) {
            method.tier = TRUSTING;
            method.trustRecords();
            costCount += SECOND_COMPILATION_COST * method.length();
            totals[SECOND_COMPILATIONS]++;
        }
    }

    /** Such an end is no instruction, so any number of them may follow one another in one step. */
    private void endFinishedMethods() {
        for (int open = running; open > 0; open--) {
            Frame frame = frames[open - 1];
            if (methods.get(frame.method).hasPlace(frame.place)) {
                return;
            }
            end(0, NONE);
        }
    }

    private void end(int value, int type) {
        running--;
        if (running > 0) {
            Frame caller = frames[running - 1];
            caller.put(caller.awaiting, value, type);
        } else {
            resultValue = value;
            resultType = type;
        }
    }

    private void doInstruction(Frame frame) {
        Instruction todo = methods.get(frame.method).code.get(frame.place);
        stepCount++;
        costCount += instructionCost(frame.tier);
        switch (todo.kind) {
            case SET:
                frame.setInt(todo.a, todo.b);
                frame.place++;
                break;
            case NEW:
                frame.put(todo.a, 0, todo.b);
                frame.place++;
                break;
            case SEND:
                send(frame, todo);
                break;
            case LESS:
                jumpIfLess(frame, todo);
                break;
            case JUMP:
                jump(frame, todo.a);
                break;
            case RETURN:
                end(frame.values[todo.a], frame.types[todo.a]);
                break;
            default:
                calculate(frame, todo);
                break;
        }
    }

    private static int instructionCost(int tier) {
        if (tier == INTERPRETED) {
            return 10;
        }
        return tier == COMPILED ? 4 : 1;
    }

    private void calculate(Frame frame, Instruction todo) {
        if (!frame.isInt(todo.b) || !frame.isInt(todo.c)) {
            errorCode = WRONG_VALUE;
            return;
        }
        int left = frame.values[todo.b];
        int right = frame.values[todo.c];
        if (todo.kind == ADD) {
            frame.setInt(todo.a, left + right);
        } else if (todo.kind == SUB) {
            frame.setInt(todo.a, left - right);
        } else {
            frame.setInt(todo.a, left * right);
        }
        frame.place++;
    }

    private void jumpIfLess(Frame frame, Instruction todo) {
        if (!frame.isInt(todo.a) || !frame.isInt(todo.b)) {
            errorCode = WRONG_VALUE;
            return;
        }
        if (frame.values[todo.a] < frame.values[todo.b]) {
            jump(frame, todo.c);
        } else {
            frame.place++;
        }
    }

    private void jump(Frame frame, int target) {
        boolean backward = target <= frame.place;
        frame.place = target;
        if (!backward) {
            return;
        }
        Method method = methods.get(frame.method);
        warm(method);
        if (method.tier > frame.tier) {
            frame.tier = method.tier;
            totals[SWITCHES]++;
        }
    }

    private void send(Frame frame, Instruction todo) {
        if (frame.isInt(todo.c)) {
            errorCode = WRONG_VALUE;
            return;
        }
        int type = frame.types[todo.c];
        int called = hierarchy.understood(type, todo.b);
        if (called == NONE) {
            errorCode = NOT_UNDERSTOOD;
            return;
        }
        costCount += findingCost(frame, todo, type);
        if (running >= MAX_RUNNING) {
            errorCode = TOO_DEEP;
            return;
        }
        frame.place++;
        frame.awaiting = todo.a;
        Frame callee = begin(called);
        callee.put(0, frame.values[todo.d], frame.types[todo.d]);
        callee.put(1, 0, type);
    }

    /** What it costs a SEND to find its method; the record learns, and the method may be disappointed. */
    private int findingCost(Frame frame, Instruction todo, int type) {
        int searching = hierarchy.levels(type, todo.b);
        if (frame.tier != TRUSTING) {
            todo.met.note(type);
            return searching;
        }
        if (todo.trusted.crowded) {
            return searching;
        }
        int index = todo.trusted.find(type);
        if (index != NONE) {
            return index;
        }
        todo.met.note(type);
        disappoint(frame.method);
        return searching;
    }

    private void disappoint(int number) {
        Method method = methods.get(number);
        method.disappointments++;
        method.cool();
        totals[DISAPPOINTMENTS]++;
        for (int i = 0; i < running; i++) {
            if (frames[i].method == number) {
                frames[i].tier = INTERPRETED;
            }
        }
    }

    /** The classes, their parents, and the methods by which they implement the selectors. */
    private static final class Hierarchy {
        final int[] parents = new int[MAX_CLASSES];
        final int[][] implementers = new int[MAX_CLASSES][SELECTORS];
        final int[] before = new int[MAX_CLASSES];
        int count = 0;

        boolean hasClass(int type) {
            return type >= 0 && type < count;
        }

        /** The caller has seen that there is room. */
        int addChild(int parent) {
            parents[count] = parent;
            Arrays.fill(implementers[count], NONE);
            count++;
            return count - 1;
        }

        /** Keeps what the classes understood before, so that a change can be seen. */
        void setImplementer(int type, int selector, int method) {
            for (int i = 0; i < count; i++) {
                before[i] = understood(i, selector);
            }
            implementers[type][selector] = method;
        }

        boolean hasChanged(int type, int selector) {
            return before[type] != understood(type, selector);
        }

        int understood(int type, int selector) {
            int at = type;
            for (int up = 0; up < MAX_CLASSES && hasClass(at); up++) {
                if (implementers[at][selector] != NONE) {
                    return implementers[at][selector];
                }
                at = parents[at];
            }
            return NONE;
        }

        /** How many classes there are from this one up to the one that implements, both included. */
        int levels(int type, int selector) {
            int at = type;
            int passed = 0;
            for (int up = 0; up < MAX_CLASSES && hasClass(at); up++) {
                passed++;
                if (implementers[at][selector] != NONE) {
                    return passed;
                }
                at = parents[at];
            }
            return passed;
        }
    }

    /** The record of a SEND: the classes that it has met. */
    private static final class Meetings {
        final int[] types = new int[MAX_MET];
        int count = 0;
        boolean crowded = false;

        void clear() {
            count = 0;
            crowded = false;
        }

        int find(int type) {
            for (int i = 0; i < count; i++) {
                if (types[i] == type) {
                    return i;
                }
            }
            return NONE;
        }

        void note(int type) {
            if (find(type) != NONE) {
                return;
            }
            if (count < MAX_MET) {
                types[count] = type;
                count++;
            } else {
                crowded = true;
            }
        }

        void copyFrom(Meetings other) {
            System.arraycopy(other.types, 0, types, 0, MAX_MET);
            count = other.count;
            crowded = other.crowded;
        }

        int told() {
            return crowded ? MAX_MET + 1 : count;
        }
    }

    /** An instruction, whose operands have been tested; the records have a meaning for a SEND alone. */
    private static final class Instruction {
        final int kind;
        final int a;
        final int b;
        final int c;
        final int d;
        final Meetings met = new Meetings();
        final Meetings trusted = new Meetings();

        Instruction(int kind, int a, int b, int c, int d) {
            this.kind = kind;
            this.a = a;
            this.b = b;
            this.c = c;
            this.d = d;
        }

        boolean trustsChange(int selector, Hierarchy hierarchy) {
            if (kind != SEND || b != selector || trusted.crowded) {
                return false;
            }
            for (int i = 0; i < trusted.count; i++) {
                if (hierarchy.hasChanged(trusted.types[i], selector)) {
                    return true;
                }
            }
            return false;
        }
    }

    /** A method: its instructions, and what was learned of it. */
    private static final class Method {
        final ArrayList<Instruction> code = new ArrayList<Instruction>();
        int tier = INTERPRETED;
        int heat = 0;
        int disappointments = 0;

        int length() {
            return code.size();
        }

        boolean hasPlace(int place) {
            return place >= 0 && place < code.size();
        }

        void cool() {
            tier = INTERPRETED;
            heat = 0;
        }

        void unlearn() {
            cool();
            disappointments = 0;
            for (int i = 0; i < code.size(); i++) {
                code.get(i).met.clear();
            }
        }

        /** A copy, since a running method of a lower tier still notes classes in the record itself. */
        void trustRecords() {
            for (int i = 0; i < code.size(); i++) {
                code.get(i).trusted.copyFrom(code.get(i).met);
            }
        }

        /** Whether a SEND of it trusts a class that has just changed what it understands. */
        boolean hasTrustingSend(int selector, Hierarchy hierarchy) {
            for (int i = 0; i < code.size(); i++) {
                if (code.get(i).trustsChange(selector, hierarchy)) {
                    return true;
                }
            }
            return false;
        }

        long mixInto(long start) {
            long d = start;
            d = d * DIGEST_FACTOR + code.size();
            d = d * DIGEST_FACTOR + tier;
            d = d * DIGEST_FACTOR + heat;
            d = d * DIGEST_FACTOR + disappointments;
            for (int i = 0; i < code.size(); i++) {
                if (code.get(i).kind == SEND) {
                    d = d * DIGEST_FACTOR + code.get(i).met.told();
                }
            }
            return d;
        }
    }

    /** A running method; a register holds an object where its type is a class, and an int where it is NONE. */
    private static final class Frame {
        final int[] values = new int[REGISTERS];
        final int[] types = new int[REGISTERS];
        int method = 0;
        int tier = INTERPRETED;
        int place = 0;
        int awaiting = 0;

        void start(int number, int runningTier) {
            method = number;
            tier = runningTier;
            place = 0;
            Arrays.fill(values, 0);
            Arrays.fill(types, NONE);
        }

        boolean isInt(int register) {
            return types[register] == NONE;
        }

        void setInt(int register, int value) {
            put(register, value, NONE);
        }

        void put(int register, int value, int type) {
            values[register] = value;
            types[register] = type;
        }
    }
}
