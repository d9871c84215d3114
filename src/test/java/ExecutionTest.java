/** Promises 9 to 16, with the language, the tiers and the execution of the description. */
final class ExecutionTest extends Programs {

    public static void main(String[] args) {
        arithmetic();
        registers();
        sendHandsOver();
        less();
        endsWithoutReturn();
        resultsAndTheirClasses();
        stepsOfOneMethod();
        stepsOfTwoMethods();
        wrongRuns();
        outcomeIsForgotten();
        wrongValues();
        notUnderstood();
        tooDeep();
        deepestErrorsInOrder();
        tooDeepAndDisappointed();
        costsOfTiers();
        twoCompilationsAtOnce();
        warmingByJumps();
        runningTierStays();
        costsOfSends();
        trustAndCrowd();
        budgetIsSpent();
        trustIsACopy();
        allRunningOnesGoBack();
        totals();
        Check.end();
    }

    private static void arithmetic() {
        int max = Integer.MAX_VALUE;
        int min = Integer.MIN_VALUE;
        calculates(Check.ADD, 2, 3, 5);
        calculates(Check.ADD, max, 1, min);
        calculates(Check.ADD, min, -1, max);
        calculates(Check.SUB, 2, 3, -1);
        calculates(Check.SUB, min, 1, max);
        calculates(Check.SUB, 0, min, min);
        calculates(Check.MUL, -4, 3, -12);
        calculates(Check.MUL, 65536, 65536, 0);
        calculates(Check.MUL, min, -1, min);
        calculates(Check.MUL, 123456789, 987654321, 123456789 * 987654321);
    }

    private static void calculates(int kind, int left, int right, int want) {
        TieredMachine x = single(Check.op(Check.SET, 1, left), Check.op(Check.SET, 2, right),
            Check.op(kind, 3, 1, 2), Check.op(Check.RETURN, 3));
        Check.due("9 kind " + kind, x.run(0, 99, 10), 0);
        Check.due("10 kind " + kind + " of " + left + " and " + right, x.result(), want);
        TieredMachine y = single(Check.op(Check.SET, 1, left), Check.op(kind, 1, 1, 0), Check.op(Check.RETURN, 1));
        y.run(0, right, 10);
        Check.due("10 kind " + kind + " into its own register", y.result(), want);
    }

    private static void registers() {
        for (int register = 0; register < 4; register++) {
            TieredMachine x = single(Check.op(Check.RETURN, register));
            Check.due("9 return at once", x.run(0, -5, 1), 0);
            Check.due("10 register " + register + " at first", x.result(), register == 0 ? -5 : 0);
            Check.due("11 register " + register + " at first", x.resultClass(), -1);
        }
        TieredMachine x = single(Check.op(Check.NEW, 3, 0), Check.op(Check.SET, 3, 8), Check.op(Check.RETURN, 3));
        x.run(0, 0, 9);
        Check.due("11 an int in an object's place", Check.outcome(x),
            "result 8 class -1 error 0 cost 30 steps 3 depth 1");
        x = single(Check.op(Check.SET, 3, 8), Check.op(Check.NEW, 3, 0), Check.op(Check.RETURN, 3));
        x.run(0, 0, 9);
        Check.due("11 an object in an int's place", Check.outcome(x),
            "result 0 class 0 error 0 cost 30 steps 3 depth 1");
    }

    private static void sendHandsOver() {
        int[][] back = {Check.op(Check.RETURN, 2)};
        TieredMachine x = caller(back, Check.op(Check.RETURN, 0));
        x.run(0, 42, 10);
        Check.due("9 register 0 of the called one", x.result(), 42);
        x = caller(back, Check.op(Check.RETURN, 1));
        x.run(0, 42, 10);
        Check.due("9 register 1 of the called one", x.resultClass(), 0);
        Check.due("9 an object has no int", x.result(), 0);
        x = caller(new int[][] {Check.op(Check.RETURN, 0)}, Check.op(Check.SET, 0, 7), Check.op(Check.RETURN, 0));
        x.run(0, 42, 10);
        Check.due("9 the caller's registers are its own", x.result(), 42);
        x = caller(new int[][] {Check.op(Check.RETURN, 1)}, Check.op(Check.SET, 1, 7), Check.op(Check.RETURN, 1));
        x.run(0, 42, 10);
        Check.due("9 the caller keeps the object", x.resultClass(), 0);
        for (int register = 2; register < 4; register++) {
            TieredMachine y = single(Check.op(Check.NEW, 1, 0), Check.op(Check.SEND, 2, 0, 1, 1),
                Check.op(Check.SEND, 2, 1, 1, 0), Check.op(Check.RETURN, 2));
            y.addMethod();
            y.addMethod();
            Check.append(y, 1, Check.op(Check.SET, 2, 5), Check.op(Check.NEW, 3, 0));
            Check.append(y, 2, Check.op(Check.RETURN, register));
            y.implement(0, 0, 1);
            y.implement(0, 1, 2);
            y.run(0, 42, 20);
            Check.due("9 fresh registers after another call", y.resultClass() + "," + y.result(), "-1,0");
        }
        x = single(Check.op(Check.NEW, 1, 0), Check.op(Check.SEND, 1, 2, 1, 1), Check.op(Check.RETURN, 1));
        x.addMethod();
        Check.append(x, 1, Check.op(Check.RETURN, 0));
        x.implement(0, 2, 1);
        x.run(0, 42, 10);
        Check.due("9 an object as the argument", x.resultClass(), 0);
    }

    private static void less() {
        compares(1, 2, true);
        compares(2, 2, false);
        compares(3, 2, false);
        compares(-1, 0, true);
        compares(Integer.MIN_VALUE, Integer.MAX_VALUE, true);
        compares(Integer.MAX_VALUE, Integer.MIN_VALUE, false);
    }

    private static void compares(int left, int right, boolean want) {
        TieredMachine x = single(Check.op(Check.SET, 1, right), Check.op(Check.LESS, 0, 1, 4),
            Check.op(Check.SET, 2, 100), Check.op(Check.RETURN, 2), Check.op(Check.SET, 2, 200),
            Check.op(Check.RETURN, 2));
        x.run(0, left, 10);
        Check.due("9 " + left + " less " + right, x.result(), want ? 200 : 100);
        Check.due("9 no jump back", x.heat(0), 1);
    }

    private static void endsWithoutReturn() {
        TieredMachine x = single(Check.op(Check.SET, 0, 7), Check.op(Check.JUMP, 20), Check.op(Check.SET, 1, 7));
        Check.due("9 behind the last place", x.run(0, 3, 10), 0);
        Check.due("10 int 0", Check.outcome(x), "result 0 class -1 error 0 cost 20 steps 2 depth 1");
        x = single();
        Check.due("9 no instructions", x.run(0, 3, 1), 0);
        Check.due("10 no instructions", Check.outcome(x), "result 0 class -1 error 0 cost 0 steps 0 depth 1");
        x = caller(new int[][] {Check.op(Check.RETURN, 2)}, Check.op(Check.SET, 0, 7));
        x.run(0, 3, 10);
        Check.due("10 int 0 for the caller", Check.outcome(x), "result 0 class -1 error 0 cost 41 steps 4 depth 2");
        x = caller(new int[][] {Check.op(Check.SET, 0, 1), Check.op(Check.ADD, 2, 2, 0), Check.op(Check.RETURN, 2)});
        x.run(0, 3, 10);
        Check.due("10 the caller can count with it", x.result(), 1);
    }

    private static void resultsAndTheirClasses() {
        TieredMachine x = new TieredMachine();
        for (int i = 0; i < 8; i++) {
            x.addClass(-1);
        }
        x.addMethod();
        Check.append(x, 0, Check.op(Check.NEW, 2, 7), Check.op(Check.RETURN, 2));
        Check.due("9 an object as result", x.run(0, 5, 10), 0);
        Check.due("11 its class", Check.outcome(x), "result 0 class 7 error 0 cost 20 steps 2 depth 1");
        x = caller(new int[][] {Check.op(Check.RETURN, 2)}, Check.op(Check.NEW, 0, 0), Check.op(Check.RETURN, 0));
        x.run(0, 5, 10);
        Check.due("11 through a caller", x.resultClass(), 0);
    }

    private static void stepsOfOneMethod() {
        TieredMachine x = single(Check.op(Check.SET, 0, 7), Check.op(Check.RETURN, 0));
        Check.due("9 no step", x.run(0, 0, 0), 1);
        Check.due("14 no step, but begun", Check.outcome(x), "result 0 class -1 error 0 cost 0 steps 0 depth 1");
        Check.due("18 warmed", x.heat(0), 1);
        Check.due("9 one step", x.run(0, 0, 1), 1);
        Check.due("14 one step", Check.outcome(x), "result 0 class -1 error 0 cost 10 steps 1 depth 1");
        Check.due("9 just enough", x.run(0, 0, 2), 0);
        Check.due("14 just enough", Check.outcome(x), "result 7 class -1 error 0 cost 20 steps 2 depth 1");
        x = single(Check.op(Check.SET, 0, 7));
        Check.due("9 the end of the method would follow", x.run(0, 0, 1), 1);
        Check.due("14 and has not come", x.steps(), 1);
        Check.due("9 it comes with one more", x.run(0, 0, 2), 0);
        Check.due("14 but is no instruction", x.steps(), 1);
        x = single();
        Check.due("9 the end at once, no step", x.run(0, 0, 0), 1);
        Check.due("9 the end at once", x.run(0, 0, 1), 0);
        x = single(Check.op(Check.JUMP, 0));
        x.setPolicy(1, 1, 1);
        Check.due("9 no step, but compiled", x.run(0, 0, 0), 1);
        Check.due("13 no step, but compiled", Check.outcome(x), "result 0 class -1 error 0 cost 70 steps 0 depth 1");
        Check.due("9 the most steps", x.run(0, 0, 2000), 1);
        Check.due("14 the most steps", Check.outcome(x), "result 0 class -1 error 0 cost 2000 steps 2000 depth 1");
        Check.due("18 the most steps", x.heat(0), 2002);
    }

    private static void stepsOfTwoMethods() {
        TieredMachine x = caller(new int[][] {Check.op(Check.RETURN, 2)}, Check.op(Check.RETURN, 0));
        Check.due("9 before the SEND", x.run(0, 5, 1), 1);
        Check.due("15 before the SEND", x.depth(), 1);
        Check.due("9 the SEND is done", x.run(0, 5, 2), 1);
        Check.due("15 the called one has begun", x.depth(), 2);
        Check.due("18 the called one is warm", x.heat(1), 1);
        Check.due("9 the called one has ended", x.run(0, 5, 3), 1);
        Check.due("10 that is not the result", x.result(), 0);
        Check.due("9 all is done", x.run(0, 5, 4), 0);
        Check.due("10 all is done", Check.outcome(x), "result 5 class -1 error 0 cost 41 steps 4 depth 2");
        x = caller(new int[][] {});
        Check.due("9 two ends would follow", x.run(0, 5, 2), 1);
        Check.due("9 two ends follow", x.run(0, 5, 3), 0);
        Check.due("14 two ends follow", Check.outcome(x), "result 0 class -1 error 0 cost 21 steps 2 depth 2");
        x = caller(new int[][] {}, Check.op(Check.RETURN, 0));
        Check.due("9 the caller's end would follow", x.run(0, 5, 3), 1);
        Check.due("9 the caller's end follows", x.run(0, 5, 4), 0);
        Check.due("10 it ends with 0", x.result(), 0);
    }

    private static void wrongRuns() {
        TieredMachine x = single(Check.op(Check.RETURN, 0));
        x.run(0, 6, 1);
        for (int bad : new int[] {-1, 1, 12, Integer.MIN_VALUE, Integer.MAX_VALUE}) {
            Check.refused("9 method " + bad, x, Check.INDEX, () -> x.run(bad, 0, 10));
            Check.refused("9 method " + bad + " and steps -1", x, Check.INDEX, () -> x.run(bad, 0, -1));
        }
        for (int bad : new int[] {-1, 2001, Integer.MIN_VALUE, Integer.MAX_VALUE}) {
            Check.refused("9 steps " + bad, x, Check.ARGUMENT, () -> x.run(0, 0, bad));
        }
        Check.due("10 still there", x.result(), 6);
    }

    private static void outcomeIsForgotten() {
        TieredMachine x = caller(new int[][] {Check.op(Check.RETURN, 2)}, Check.op(Check.RETURN, 1));
        x.addMethod();
        Check.append(x, 2, Check.op(Check.SEND, 0, 0, 0, 0));
        x.run(0, 0, 10);
        Check.due("11 an object", x.resultClass(), 0);
        x.run(2, 0, 10);
        Check.due("12 an error, no result", Check.outcome(x), "result 0 class -1 error 1 cost 10 steps 1 depth 1");
        x.addMethod();
        Check.append(x, 3, Check.op(Check.RETURN, 0));
        x.run(3, 9, 10);
        Check.due("12 no error any more", Check.outcome(x), "result 9 class -1 error 0 cost 10 steps 1 depth 1");
        x.run(2, 9, 0);
        Check.due("10 no result any more", Check.outcome(x), "result 0 class -1 error 0 cost 0 steps 0 depth 1");
    }

    private static void wrongValues() {
        for (int kind : new int[] {Check.ADD, Check.SUB, Check.MUL}) {
            wrongValue(Check.op(kind, 0, 1, 0));
            wrongValue(Check.op(kind, 0, 0, 1));
            wrongValue(Check.op(kind, 1, 1, 1));
        }
        wrongValue(Check.op(Check.LESS, 1, 0, 3));
        wrongValue(Check.op(Check.LESS, 0, 1, 3));
        wrongValue(Check.op(Check.LESS, 1, 1, 0));
        wrongValue(Check.op(Check.SEND, 0, 0, 0, 1));
        TieredMachine x = single(Check.op(Check.NEW, 1, 0), Check.op(Check.ADD, 1, 0, 2), Check.op(Check.RETURN, 1));
        Check.due("9 what is written may be an object before", x.run(0, 5, 10), 0);
        Check.due("10 what is written may be an object before", x.result(), 5);
    }

    private static void wrongValue(int[] instruction) {
        TieredMachine x = single(Check.op(Check.NEW, 1, 0), instruction, Check.op(Check.RETURN, 0));
        String what = " kind " + instruction[0];
        Check.due("9" + what, x.run(0, 5, 2), 2);
        Check.due("12" + what, Check.outcome(x), "result 0 class -1 error 1 cost 20 steps 2 depth 1");
        Check.due("18" + what, x.heat(0), 1);
        x.setPolicy(1, 1000, 0);
        x.run(0, 5, 2);
        Check.due("13 in tier 1" + what, x.cost(), 60 + 8);
        x.setPolicy(1, 1, 1);
        x.run(0, 5, 2);
        Check.due("13 in tier 2" + what, x.cost(), 150 + 2);
        Check.due("19 no disappointment" + what, x.disappointments(0), 0);
    }

    private static void notUnderstood() {
        TieredMachine x = caller(new int[][] {Check.op(Check.RETURN, 2)}, Check.op(Check.RETURN, 0));
        x.implement(0, 0, -1);
        Check.due("9 not understood", x.run(0, 5, 10), 2);
        Check.due("12 not understood", Check.outcome(x), "result 0 class -1 error 2 cost 20 steps 2 depth 1");
        Check.due("20 not noted", x.met(0, 1), 0);
        x.setPolicy(1, 1, 1);
        x.run(0, 5, 10);
        Check.due("12 in tier 2", Check.outcome(x), "result 0 class -1 error 2 cost 212 steps 2 depth 1");
        Check.due("19 no disappointment", Check.learned(x, 0) + " " + Check.records(x, 0), "2/2/0 1:0[] ");
    }

    private static void tooDeep() {
        TieredMachine x = single(Check.op(Check.NEW, 1, 0), Check.op(Check.SEND, 0, 3, 1, 0));
        x.implement(0, 3, 0);
        x.setPolicy(1000, 1000, 0);
        Check.due("9 too deep", x.run(0, 5, 100), 2);
        Check.due("12 too deep", Check.outcome(x), "result 0 class -1 error 3 cost 420 steps 40 depth 20");
        Check.due("18 the last one has not begun", x.heat(0), 20);
        Check.due("9 twenty may run", x.run(0, 5, 39), 1);
        Check.due("15 twenty may run", Check.outcome(x), "result 0 class -1 error 0 cost 409 steps 39 depth 20");
        Check.due("9 the error comes with the step", x.run(0, 5, 40), 2);
        Check.due("12 the error comes with the step", x.error(), 3);
        TieredMachine y = recursive();
        y.setPolicy(1000, 1000, 0);
        Check.due("9 twenty run, the inmost one calls no other", y.run(0, 19, 2000), 0);
        Check.due("15 twenty run", y.depth(), 20);
        Check.due("9 one more", y.run(0, 20, 2000), 2);
        Check.due("12 one more", y.error(), 3);
        Check.due("15 one more", y.depth(), 20);
    }

    private static void deepestErrorsInOrder() {
        // The argument counts down; at the twentieth depth another instruction than the SEND that went deeper is done.
        for (int error = 1; error <= 2; error++) {
            TieredMachine x = single(
                Check.op(Check.SET, 2, 1),
                Check.op(Check.NEW, 3, 0),
                Check.op(Check.LESS, 0, 2, 6),
                Check.op(Check.SUB, 0, 0, 2),
                Check.op(Check.SEND, 0, 0, 3, 0),
                Check.op(Check.RETURN, 0),
                error == 1 ? Check.op(Check.SEND, 0, 0, 2, 0) : Check.op(Check.SEND, 0, 1, 3, 0));
            x.implement(0, 0, 0);
            Check.due("9 at depth 20", x.run(0, 19, 500), 2);
            Check.due("12 at depth 20", x.error(), error);
            Check.due("15 at depth 20", x.depth(), 20);
        }
    }

    private static void tooDeepAndDisappointed() {
        TieredMachine x = single(
            Check.op(Check.SET, 2, 1),
            Check.op(Check.NEW, 3, 0),
            Check.op(Check.LESS, 2, 0, 4));
        x.addClass(0);
        Check.append(x, 0,
            Check.op(Check.NEW, 3, 1),
            Check.op(Check.SUB, 0, 0, 2),
            Check.op(Check.SEND, 0, 0, 3, 0));
        x.implement(0, 0, 0);
        x.setPolicy(1, 21, 5);
        x.run(0, 100, 1000);
        Check.due("12 to train it", x.error() + " " + Check.learned(x, 0), "3 1/20/0");
        x.run(0, 20, 1000);
        Check.due("12 both", Check.outcome(x), "result 0 class -1 error 3 cost 403 steps 101 depth 20");
        Check.due("19 both", Check.learned(x, 0) + " " + Check.records(x, 0), "0/0/1 5:2[01] ");
    }

    private static void costsOfTiers() {
        TieredMachine x = single(Check.op(Check.JUMP, 0));
        x.setPolicy(2, 4, 1);
        x.run(0, 0, 5);
        Check.due("13 each tier", x.cost(), 10 + 20 + 4 + 4 + 50 + 1 + 1);
        Check.due("16 each tier", Check.totals(x), "1,1,0,2");
        Check.due("17 each tier", Check.learned(x, 0), "2/6/0");
        x.run(0, 0, 5);
        Check.due("13 no compilation any more", x.cost(), 5);
        Check.due("16 no switch any more", Check.totals(x), "1,1,0,2");
        TieredMachine y = single(Check.op(Check.SET, 1, 0), Check.op(Check.SET, 1, 0), Check.op(Check.RETURN, 0));
        int[] costs = {30, 30, 30, 30, 60 + 12, 12, 12};
        for (int i = 0; i < 19; i++) {
            y.run(0, 0, 5);
            Check.due("13 with the settings at first, run " + i, y.cost(), costs[Math.min(i, 6)]);
        }
        y.run(0, 0, 5);
        Check.due("13 at the second threshold", y.cost(), 150 + 3);
        Check.due("16 a method that begins does not switch", Check.totals(y), "1,1,0,0");
    }

    private static void twoCompilationsAtOnce() {
        for (int second : new int[] {1, 2, 3}) {
            TieredMachine x = single(Check.op(Check.JUMP, 0));
            x.setPolicy(3, second, 1);
            x.run(0, 0, 3);
            Check.due("13 both at once", x.cost(), 10 + 10 + 70 + 1);
            Check.due("16 both at once", Check.totals(x), "1,1,0,1");
        }
        TieredMachine x = single(Check.op(Check.JUMP, 0));
        x.setPolicy(3, 1, 0);
        x.run(0, 0, 3);
        Check.due("13 without a budget", x.cost(), 10 + 10 + 20 + 4);
        Check.due("16 without a budget", Check.totals(x), "1,0,0,1");
    }

    private static void warmingByJumps() {
        TieredMachine x = single(Check.op(Check.JUMP, 1), Check.op(Check.JUMP, 3), Check.op(Check.RETURN, 0),
            Check.op(Check.JUMP, 2));
        x.run(0, 0, 10);
        Check.due("18 two forward, one back", x.heat(0), 2);
        x = single(Check.op(Check.SET, 1, 9), Check.op(Check.LESS, 0, 1, 1));
        x.run(0, 8, 4);
        Check.due("18 LESS to its own place", x.heat(0), 4);
        x = single(Check.op(Check.SET, 1, 9), Check.op(Check.LESS, 0, 1, 1));
        x.run(0, 9, 4);
        Check.due("18 LESS that does not jump", x.heat(0), 1);
        x = single(Check.op(Check.SET, 1, 9), Check.op(Check.LESS, 0, 1, 2), Check.op(Check.JUMP, 2));
        x.run(0, 8, 5);
        Check.due("18 LESS to the next place, JUMP to its own", x.heat(0), 4);
        x = single(Check.op(Check.JUMP, 20));
        x.run(0, 0, 5);
        Check.due("18 JUMP to the end", x.heat(0), 1);
    }

    /** The inner one is compiled; the outer one goes on as it is until it jumps back. */
    private static void runningTierStays() {
        TieredMachine x = single(
            Check.op(Check.SET, 2, 1),
            Check.op(Check.LESS, 0, 2, 6),
            Check.op(Check.SUB, 0, 0, 2),
            Check.op(Check.NEW, 3, 0),
            Check.op(Check.SEND, 1, 0, 3, 0),
            Check.op(Check.JUMP, 1),
            Check.op(Check.RETURN, 0));
        x.implement(0, 0, 0);
        x.setPolicy(2, 1000, 0);
        x.run(0, 1, 100);
        Check.due("13 the outer one", x.cost(), 50 + 1 + 140 + 12 + 10 + 8);
        Check.due("16 the outer one", Check.totals(x), "1,0,0,1");
        Check.due("18 the outer one", Check.learned(x, 0), "1/3/0");
    }

    private static void costsOfSends() {
        for (int implementer = 0; implementer < 8; implementer++) {
            TieredMachine x = new TieredMachine();
            for (int i = 0; i < 8; i++) {
                x.addClass(i - 1);
            }
            x.addMethod();
            x.addMethod();
            Check.append(x, 0, Check.op(Check.NEW, 1, 7), Check.op(Check.SEND, 0, 0, 1, 0));
            x.implement(implementer, 0, 1);
            int search = 8 - implementer;
            x.setPolicy(2, 3, 1);
            x.run(0, 0, 10);
            Check.due("13 tier 0", x.cost(), 20 + search);
            x.run(0, 0, 10);
            Check.due("13 tier 1", x.cost(), 40 + 8 + search);
            x.run(0, 0, 10);
            Check.due("13 tier 2", x.cost(), 100 + 2);
            x.forget();
            x.setPolicy(1, 1, 1);
            x.run(0, 0, 10);
            Check.due("13 disappointed", x.cost(), 140 + 2 + search);
        }
    }

    private static void trustAndCrowd() {
        TieredMachine x = sender();
        x.setPolicy(1, 4, 2);
        costs(x, 2, 240 + 44 + 2);
        costs(x, 0, 20 + 1);
        costs(x, 1, 32 + 2);
        costs(x, 2, 600 + 11 + 0);
        costs(x, 2, 11 + 0);
        costs(x, 0, 5 + 1);
        costs(x, 1, 8 + 2);
        Check.due("20 three", Check.records(x, 0), "10:3[201] ");
        costs(x, 3, 11 + 2 + 10);
        Check.due("20 crowded", Check.records(x, 0), "10:4[201] ");
        Check.due("19 disappointed", Check.learned(x, 0), "0/0/1");
        costs(x, 3, 240 + 48 + 2);
        costs(x, 3, 48 + 2);
        costs(x, 0, 20 + 1);
        costs(x, 3, 600 + 12 + 2);
        costs(x, 3, 12 + 2);
        costs(x, 0, 5 + 1);
        costs(x, 2, 11 + 2);
        Check.due("19 a crowded record does not disappoint", Check.learned(x, 0), "2/7/1");
        Check.due("20 it stays as it was", Check.records(x, 0), "10:4[201] ");
        Check.due("16 in all", Check.totals(x), "3,3,1,0");
    }

    private static void costs(TieredMachine x, int argument, int want) {
        x.run(0, argument, 100);
        Check.due("13 a SEND to class " + argument, x.cost(), want);
    }

    private static void budgetIsSpent() {
        TieredMachine x = sender();
        x.setPolicy(1, 1, 1);
        costs(x, 0, 840 + 4 + 1 + 10);
        Check.due("19 disappointed", Check.learned(x, 0), "0/0/1");
        costs(x, 0, 240 + 20 + 1);
        Check.due("19 tier 1 and no more", Check.learned(x, 0), "1/1/1");
        costs(x, 0, 20 + 1);
        x.setPolicy(1, 1, 2);
        costs(x, 0, 600 + 5);
        Check.due("19 a greater budget", Check.learned(x, 0), "2/3/1");
        x.setPolicy(1, 1, 0);
        costs(x, 0, 5);
        costs(x, 1, 7 + 2 + 10);
        costs(x, 1, 240 + 32 + 2);
        Check.due("19 twice", Check.learned(x, 0), "1/1/2");
    }

    /** A class that the outer one, in tier 1, has noted after the compilation is not trusted. */
    private static void trustIsACopy() {
        TieredMachine x = recursive();
        x.setPolicy(1, 2, 5);
        x.run(0, 1, 100);
        Check.due("13 the first", x.cost(), 160 + 16 + 5 + 400 + 3 + 4 + 5 + 4);
        Check.due("20 the first", Check.learned(x, 0) + " " + Check.records(x, 0), "2/2/0 4:1[0] 6:1[1] ");
        x.run(0, 1, 100);
        Check.due("13 the second", x.cost(), 4 + 1 + 3 + 1 + 2 + 10);
        Check.due("19 the second", Check.learned(x, 0), "0/0/1");
        Check.due("16 the second", Check.totals(x), "2,2,1,0");
    }

    private static void allRunningOnesGoBack() {
        TieredMachine x = recursive();
        x.setPolicy(1, 2, 5);
        x.run(0, 1, 100);
        x.run(0, 2, 100);
        Check.due("13 the outer one has gone back too", x.cost(), 5 + 5 + 3 + 3 + 10 + 10 + 11 + 10);
        Check.due("19 but was not disappointed", Check.learned(x, 0), "0/0/1");
        Check.due("17 the others keep their tiers", x.tier(1), 2);
    }

    private static void totals() {
        TieredMachine x = single(Check.op(Check.JUMP, 0));
        x.setPolicy(1, 1, 1);
        for (int i = 1; i <= 3; i++) {
            x.run(0, 0, 1);
            x.forget();
            Check.due("16 over all executions", Check.totals(x), i + "," + i + ",0,0");
        }
        for (int bad : new int[] {-1, 4, Integer.MIN_VALUE, Integer.MAX_VALUE}) {
            Check.refused("16 total(" + bad + ")", x, Check.INDEX, () -> x.total(bad));
        }
    }
}
