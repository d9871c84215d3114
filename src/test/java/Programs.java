import java.util.Arrays;

/** Small programs that several tests use, and the instructions by name. */
class Programs {

    static int[] set(int a, int number) {
        return Check.op(Check.SET, a, number);
    }

    static int[] add(int a, int b, int c) {
        return Check.op(Check.ADD, a, b, c);
    }

    static int[] sub(int a, int b, int c) {
        return Check.op(Check.SUB, a, b, c);
    }

    static int[] mul(int a, int b, int c) {
        return Check.op(Check.MUL, a, b, c);
    }

    static int[] make(int a, int type) {
        return Check.op(Check.NEW, a, type);
    }

    static int[] send(int a, int selector, int object, int argument) {
        return Check.op(Check.SEND, a, selector, object, argument);
    }

    static int[] less(int a, int b, int place) {
        return Check.op(Check.LESS, a, b, place);
    }

    static int[] jump(int place) {
        return Check.op(Check.JUMP, place);
    }

    static int[] answer(int a) {
        return Check.op(Check.RETURN, a);
    }

    /** The same instruction so many times. */
    static int[][] times(int count, int[] instruction) {
        int[][] row = new int[count][];
        Arrays.fill(row, instruction);
        return row;
    }

    /** Classes from 0 on, so many, each the parent of the next one. */
    static TieredMachine chain(int count) {
        TieredMachine x = new TieredMachine();
        for (int i = 0; i < count; i++) {
            x.addClass(i - 1);
        }
        return x;
    }

    /** Adds a method of these instructions. */
    static int method(TieredMachine x, int[]... instructions) {
        int number = x.addMethod();
        Check.append(x, number, instructions);
        return number;
    }

    /**
     * Class 0 with its children 1, 2 and 3; class 0 implements selector 0 by the empty method 1. Method 0 sends
     * selector 0, at its place 10, to an object of the class 0, 1, 2 or 3 that its argument tells: with 5, 8, 11 or
     * 12 instructions, and no jump back. Methods 2 and 3 return 2 and 3.
     */
    static TieredMachine sender() {
        TieredMachine x = new TieredMachine();
        x.addClass(-1);
        for (int i = 1; i < 4; i++) {
            x.addClass(0);
        }
        for (int i = 0; i < 4; i++) {
            x.addMethod();
        }
        Check.append(x, 0,
            Check.op(Check.SET, 2, 1),
            Check.op(Check.NEW, 3, 0),
            Check.op(Check.LESS, 0, 2, 10),
            Check.op(Check.SUB, 0, 0, 2),
            Check.op(Check.NEW, 3, 1),
            Check.op(Check.LESS, 0, 2, 10),
            Check.op(Check.SUB, 0, 0, 2),
            Check.op(Check.NEW, 3, 2),
            Check.op(Check.LESS, 0, 2, 10),
            Check.op(Check.NEW, 3, 3),
            Check.op(Check.SEND, 0, 0, 3, 0),
            Check.op(Check.RETURN, 0));
        Check.append(x, 2, Check.op(Check.SET, 0, 2), Check.op(Check.RETURN, 0));
        Check.append(x, 3, Check.op(Check.SET, 0, 3), Check.op(Check.RETURN, 0));
        x.implement(0, 0, 1);
        return x;
    }

    /**
     * Classes 0 and 1 without parents. Method 0 with the argument n > 0 sends, at its place 4, selector 0 to an
     * object of class 0, which calls method 0 with n - 1; then, at its place 6, selector 1 to an object of class 1,
     * which calls the empty method 1. Method 2 is empty too.
     */
    static TieredMachine recursive() {
        TieredMachine x = new TieredMachine();
        x.addClass(-1);
        x.addClass(-1);
        for (int i = 0; i < 3; i++) {
            x.addMethod();
        }
        Check.append(x, 0,
            Check.op(Check.SET, 2, 1),
            Check.op(Check.LESS, 0, 2, 7),
            Check.op(Check.SUB, 0, 0, 2),
            Check.op(Check.NEW, 3, 0),
            Check.op(Check.SEND, 0, 0, 3, 0),
            Check.op(Check.NEW, 3, 1),
            Check.op(Check.SEND, 0, 1, 3, 0),
            Check.op(Check.RETURN, 0));
        x.implement(0, 0, 0);
        x.implement(1, 1, 1);
        return x;
    }

    /** A machine with class 0 and a single method 0 of these instructions. */
    static TieredMachine single(int[]... instructions) {
        TieredMachine x = new TieredMachine();
        x.addClass(-1);
        x.addMethod();
        Check.append(x, 0, instructions);
        return x;
    }

    /** Method 0 makes an object of class 0 and sends it selector 0 with its own argument, which calls method 1. */
    static TieredMachine caller(int[][] afterwards, int[]... called) {
        TieredMachine x = single(Check.op(Check.NEW, 1, 0), Check.op(Check.SEND, 2, 0, 1, 0));
        Check.append(x, 0, afterwards);
        x.addMethod();
        Check.append(x, 1, called);
        x.implement(0, 0, 1);
        return x;
    }

    /**
     * Class 0 with its children 1, 2 and 3; class 0 implements selector 0 by the empty method 1. Method 0 sends
     * selector 0, at its place 13, to an object of the class 0, 1, 2 or 3 that its argument tells; with the argument
     * 4 it does so at its place 12, and then again at 13, to an object of class 3. So it can be disappointed five
     * times, and more often than one record has room.
     */
    static TieredMachine doubleSender() {
        TieredMachine x = new TieredMachine();
        x.addClass(-1);
        for (int i = 1; i < 4; i++) {
            x.addClass(0);
        }
        method(x,
            set(2, 1),
            make(3, 0),
            less(0, 2, 13),
            sub(0, 0, 2),
            make(3, 1),
            less(0, 2, 13),
            sub(0, 0, 2),
            make(3, 2),
            less(0, 2, 13),
            sub(0, 0, 2),
            make(3, 3),
            less(0, 2, 13),
            send(1, 0, 3, 0),
            send(1, 0, 3, 0),
            answer(1));
        x.implement(0, 0, x.addMethod());
        return x;
    }

    /**
     * Class 0 and its child 1. Method 0 has a SEND of selector 1 at its first place and one at its last place, 19,
     * both to the object that it is called with, and both calling the empty method 1. Methods 2 and 3 call method 0
     * with an object of class 0 and of class 1.
     */
    static TieredMachine firstAndLastPlace() {
        TieredMachine x = chain(2);
        int[][] code = times(20, set(2, 0));
        code[0] = send(3, 1, 1, 0);
        code[19] = send(3, 1, 1, 0);
        x.implement(0, 0, method(x, code));
        x.implement(0, 1, x.addMethod());
        for (int type = 0; type < 2; type++) {
            method(x, make(1, type), send(0, 0, 1, 0));
        }
        return x;
    }

    /**
     * Class 0 with its children 1, 2 and 3. Method 0 sends selector 1, at its place 5, to the object that it is called
     * with, which calls the empty method 1; with an argument of 1 or more it calls itself before, at its place 4, by
     * an object of class 0. Methods 2 to 5 call method 0 with an object of class 0 to 3. Here method 0 was compiled to
     * tier 2 when place 5 had met the classes 0, 1 and 2; then one that still ran in tier 1 has met class 3 there. So
     * the record is crowded, but the trusted one is not.
     */
    static TieredMachine crowdedLater() {
        TieredMachine x = new TieredMachine();
        for (int type = 0; type < 4; type++) {
            x.addClass(type == 0 ? -1 : 0);
        }
        x.implement(0, 0, method(x, set(2, 1), less(0, 2, 5), make(3, 0), set(0, 0), send(2, 0, 3, 0),
            send(2, 1, 1, 0)));
        x.implement(0, 1, x.addMethod());
        for (int type = 0; type < 4; type++) {
            method(x, make(1, type), send(0, 0, 1, 0));
        }
        x.setPolicy(1, 1000, 0);
        for (int type = 0; type < 3; type++) {
            x.run(2 + type, 0, 100);
        }
        x.setPolicy(1, 5, 5);
        x.run(5, 1, 100);
        return x;
    }
}
