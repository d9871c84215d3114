/** Small programs that several tests use. */
class Programs {

    /**
     * Class 0 with its children 1, 2 and 3; class 0 implements selector 0 by the empty method 1. Method 0 sends
     * selector 0, at its place 10, to an object of the class 0, 1, 2 or 3 that its argument tells: with 5, 8, 11 or
     * 12 instructions, and no jump back. Methods 2 and 3 return 2 and 3.
     */
    static TieredMachine sender() {
        TieredMachine x = new TieredMachine();
        x.addClass(-1);
        for (int i = 1; i < 4; i++) {
            x.addClass(0);
        }
        for (int i = 0; i < 4; i++) {
            x.addMethod();
        }
        Check.append(x, 0,
            Check.op(Check.SET, 2, 1),
            Check.op(Check.NEW, 3, 0),
            Check.op(Check.LESS, 0, 2, 10),
            Check.op(Check.SUB, 0, 0, 2),
            Check.op(Check.NEW, 3, 1),
            Check.op(Check.LESS, 0, 2, 10),
            Check.op(Check.SUB, 0, 0, 2),
            Check.op(Check.NEW, 3, 2),
            Check.op(Check.LESS, 0, 2, 10),
            Check.op(Check.NEW, 3, 3),
            Check.op(Check.SEND, 0, 0, 3, 0),
            Check.op(Check.RETURN, 0));
        Check.append(x, 2, Check.op(Check.SET, 0, 2), Check.op(Check.RETURN, 0));
        Check.append(x, 3, Check.op(Check.SET, 0, 3), Check.op(Check.RETURN, 0));
        x.implement(0, 0, 1);
        return x;
    }

    /**
     * Classes 0 and 1 without parents. Method 0 with the argument n > 0 sends, at its place 4, selector 0 to an
     * object of class 0, which calls method 0 with n - 1; then, at its place 6, selector 1 to an object of class 1,
     * which calls the empty method 1. Method 2 is empty too.
     */
    static TieredMachine recursive() {
        TieredMachine x = new TieredMachine();
        x.addClass(-1);
        x.addClass(-1);
        for (int i = 0; i < 3; i++) {
            x.addMethod();
        }
        Check.append(x, 0,
            Check.op(Check.SET, 2, 1),
            Check.op(Check.LESS, 0, 2, 7),
            Check.op(Check.SUB, 0, 0, 2),
            Check.op(Check.NEW, 3, 0),
            Check.op(Check.SEND, 0, 0, 3, 0),
            Check.op(Check.NEW, 3, 1),
            Check.op(Check.SEND, 0, 1, 3, 0),
            Check.op(Check.RETURN, 0));
        x.implement(0, 0, 0);
        x.implement(1, 1, 1);
        return x;
    }

    /** A machine with class 0 and a single method 0 of these instructions. */
    static TieredMachine single(int[]... instructions) {
        TieredMachine x = new TieredMachine();
        x.addClass(-1);
        x.addMethod();
        Check.append(x, 0, instructions);
        return x;
    }

    /** Method 0 makes an object of class 0 and sends it selector 0 with its own argument, which calls method 1. */
    static TieredMachine caller(int[][] afterwards, int[]... called) {
        TieredMachine x = single(Check.op(Check.NEW, 1, 0), Check.op(Check.SEND, 2, 0, 1, 0));
        Check.append(x, 0, afterwards);
        x.addMethod();
        Check.append(x, 1, called);
        x.implement(0, 0, 1);
        return x;
    }
}
