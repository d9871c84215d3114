/** The boundary cases that promises 9 to 16 name: a test for each sentence, in the document's order. */
final class OutcomeEdgesTest extends Programs {
    private static final int MIN = Integer.MIN_VALUE;
    private static final int MAX = Integer.MAX_VALUE;
    private static final String NOTHING = "result 0 class -1 error 0 cost 0 steps 0 depth 1";

    public static void main(String[] args) {
        forgottenOutcome();
        argument();
        greatestNumberOfSteps();
        endsByReturn();
        endsOfMethods();
        endsByError();
        runNoSuchMethod();
        runStepsOutside();
        result();
        resultClass();
        error();
        cost();
        steps();
        depth();
        totals();
        totalNoSuch();
        Check.end();
    }

    /** Methods 0 to 3: returns the int 7; returns an object of class 0; ends with error 1; is empty. */
    private static TieredMachine endings() {
        TieredMachine x = chain(1);
        method(x, set(0, 7), answer(0));
        method(x, make(0, 0), answer(0));
        method(x, send(0, 0, 0, 0));
        method(x);
        return x;
    }

    private static void forgottenOutcome() {
        Check.sentence("9: Executes a method. What the execution before has told is forgotten.");
        String[] told = {"result 7 class -1 error 0 cost 20 steps 2 depth 1",
            "result 0 class 0 error 0 cost 20 steps 2 depth 1", "result 0 class -1 error 1 cost 10 steps 1 depth 1",
            NOTHING};
        for (int before = 0; before < 4; before++) {
            for (int after = 0; after < 4; after++) {
                TieredMachine x = endings();
                x.run(before, 9, 10);
                x.run(after, 9, 0);
                Check.due("nothing of " + before + " is left by " + after + " without steps", Check.outcome(x),
                    NOTHING);
                x.run(before, 9, 10);
                x.run(after, 9, 10);
                Check.due("nothing of " + before + " is left by " + after, Check.outcome(x), told[after]);
            }
        }
        TieredMachine deep = recursive();
        deep.run(0, 5, 1000);
        deep.run(1, 0, 10);
        Check.due("nor of a deep one", Check.outcome(deep), NOTHING);
    }

    private static void argument() {
        Check.sentence("9: argument: the int in its register 0");
        TieredMachine x = single(answer(0));
        for (int any : new int[] {MIN, MIN + 1, -1, 0, 1, MAX - 1, MAX}) {
            x.run(0, any, 1);
            Check.due("the argument", x.result(), any);
        }
    }

    private static void greatestNumberOfSteps() {
        Check.sentence("9: steps: the greatest number of instructions");
        TieredMachine x = single(jump(0));
        for (int steps : new int[] {0, 1, 2, 3, 1999, 2000}) {
            Check.due("it would go on for ever", x.run(0, 0, steps), 1);
            Check.due("all that may be done are done", x.steps(), steps);
        }
    }

    private static void outcome(TieredMachine x, int method, int steps, int returned, String want) {
        Check.due(steps + " steps", x.run(method, 9, steps), returned);
        Check.due(steps + " steps", Check.outcome(x), want);
    }

    private static void endsByReturn() {
        Check.sentence("9: Returns 0 if it has ended with a result, 1 if it has ended because this number of "
            + "instructions was done and another one, or the end of a method, would follow, 2 if it has ended with an "
            + "error.");
        TieredMachine x = single(set(0, 7), set(1, 8), answer(0));
        x.setPolicy(1000, 1000, 0);
        outcome(x, 0, 0, 1, NOTHING);
        outcome(x, 0, 1, 1, "result 0 class -1 error 0 cost 10 steps 1 depth 1");
        outcome(x, 0, 2, 1, "result 0 class -1 error 0 cost 20 steps 2 depth 1");
        for (int steps : new int[] {3, 4, 1999, 2000}) {
            outcome(x, 0, steps, 0, "result 7 class -1 error 0 cost 30 steps 3 depth 1");
        }
    }

    private static void endsOfMethods() {
        TieredMachine x = single(set(0, 7));
        x.setPolicy(1000, 1000, 0);
        outcome(x, 0, 0, 1, NOTHING);
        outcome(x, 0, 1, 1, "result 0 class -1 error 0 cost 10 steps 1 depth 1");
        outcome(x, 0, 2, 0, "result 0 class -1 error 0 cost 10 steps 1 depth 1");
        TieredMachine empty = single();
        outcome(empty, 0, 0, 1, NOTHING);
        outcome(empty, 0, 1, 0, NOTHING);
        TieredMachine called = caller(new int[][] {answer(2)});
        outcome(called, 0, 1, 1, "result 0 class -1 error 0 cost 10 steps 1 depth 1");
        outcome(called, 0, 2, 1, "result 0 class -1 error 0 cost 21 steps 2 depth 2");
        outcome(called, 0, 3, 0, "result 0 class -1 error 0 cost 31 steps 3 depth 2");
        TieredMachine two = caller(new int[][] {}, answer(0));
        outcome(two, 0, 2, 1, "result 0 class -1 error 0 cost 21 steps 2 depth 2");
        outcome(two, 0, 3, 1, "result 0 class -1 error 0 cost 31 steps 3 depth 2");
        outcome(two, 0, 4, 0, "result 0 class -1 error 0 cost 31 steps 3 depth 2");
        TieredMachine twenty = recursive();
        twenty.setPolicy(1000, 1000, 0);
        twenty.append(1, Check.SET, 0, 0, 0, 0);
        // Nineteen times 8 instructions and one of method 1, and the inmost one's SET, LESS and RETURN.
        Check.due("one is missing", twenty.run(0, 19, 19 * 9 + 2), 1);
        Check.due("one is missing", twenty.steps(), 19 * 9 + 2);
        Check.due("just enough", twenty.run(0, 19, 19 * 9 + 3), 0);
        Check.due("just enough", twenty.steps(), 19 * 9 + 3);
    }

    private static void endsByError() {
        TieredMachine x = single(set(1, 8), send(0, 0, 0, 0), answer(0));
        outcome(x, 0, 0, 1, NOTHING);
        outcome(x, 0, 1, 1, "result 0 class -1 error 0 cost 10 steps 1 depth 1");
        outcome(x, 0, 2, 2, "result 0 class -1 error 1 cost 20 steps 2 depth 1");
        outcome(x, 0, 3, 2, "result 0 class -1 error 1 cost 20 steps 2 depth 1");
    }

    private static void runNoSuchMethod() {
        Check.sentence("9: Throws IndexOutOfBoundsException if there is no such method");
        TieredMachine x = new TieredMachine();
        for (int count = 0; count <= 12; count++) {
            for (int bad : Check.outside(0, count - 1)) {
                Check.refused(bad + " of " + count, x, Check.INDEX, () -> x.run(bad, 0, 10));
            }
            if (count < 12) {
                x.addMethod();
                Check.due("the newest one", x.run(count, 0, 1), 0);
            }
        }
    }

    private static void runStepsOutside() {
        Check.sentence("9: Throws IllegalArgumentException if steps is not 0 to 2000");
        TieredMachine x = single(answer(0));
        x.run(0, 6, 1);
        for (int bad : Check.outside(0, 2000)) {
            Check.refused("steps " + bad, x, Check.ARGUMENT, () -> x.run(0, 5, bad));
        }
        Check.due("the execution before is not forgotten, nothing is warmed", x.result() + "," + x.heat(0), "6,1");
        Check.due("the smallest", x.run(0, 5, 0), 1);
        Check.due("the greatest", x.run(0, 5, 2000), 0);
    }

    private static void result() {
        Check.sentence("10: Returns the result of the latest execution, if it is an int; 0 if it is an object, or "
            + "there is no result.");
        Check.due("no execution", new TieredMachine().result(), 0);
        TieredMachine x = endings();
        x.run(0, 9, 2);
        Check.due("an int", x.result(), 7);
        x.run(0, 9, 1);
        Check.due("not ended", x.result(), 0);
        x.run(0, 9, 2);
        x.run(1, 9, 2);
        Check.due("an object", x.result(), 0);
        x.run(0, 9, 2);
        x.run(2, 9, 2);
        Check.due("an error", x.result(), 0);
        x.run(0, 9, 2);
        x.run(3, 9, 2);
        Check.due("the int 0", x.result(), 0);
        TieredMachine y = caller(new int[][] {answer(2)}, answer(0));
        y.run(0, 9, 3);
        Check.due("what a called one returns is no result yet", y.result(), 0);
    }

    private static void resultClass() {
        Check.sentence("11: Returns the class of the result of the latest execution; -1 if the result is an int, or "
            + "there is none.");
        Check.due("no execution", new TieredMachine().resultClass(), -1);
        TieredMachine x = endings();
        int[] methods = {0, 1, 2, 3};
        int[] want = {-1, 0, -1, -1};
        for (int method : methods) {
            x.run(1, 9, 2);
            x.run(method, 9, 2);
            Check.due("method " + method, x.resultClass(), want[method]);
        }
        x.run(1, 9, 2);
        x.run(1, 9, 1);
        Check.due("not ended", x.resultClass(), -1);
        TieredMachine y = chain(8);
        for (int type = 0; type < 8; type++) {
            int number = method(y, make(3, type), answer(3));
            y.run(number, 0, 2);
            Check.due("class " + type, y.resultClass(), type);
        }
        TieredMachine z = caller(new int[][] {answer(2)}, answer(1));
        z.run(0, 9, 3);
        Check.due("what a called one returns is no result yet", z.resultClass(), -1);
        z.run(0, 9, 4);
        Check.due("now it is", z.resultClass(), 0);
    }

    private static void error() {
        Check.sentence("12: Returns the error with which the latest execution has ended; 0 if there was none.");
        Check.due("no execution", new TieredMachine().error(), 0);
        TieredMachine x = chain(1);
        method(x, make(1, 0), add(0, 1, 1));
        method(x, make(1, 0), send(0, 5, 1, 1));
        method(x, make(1, 0), send(0, 0, 1, 1));
        method(x, answer(0));
        x.implement(0, 0, 2);
        for (int method = 0; method < 3; method++) {
            x.run(method, 0, 100);
            Check.due("each of them", x.error(), method + 1);
            x.run(3, 0, 100);
            Check.due("a result", x.error(), 0);
            x.run(method, 0, 100);
            x.run(method, 0, 1);
            Check.due("not ended", x.error(), 0);
        }
        x.run(2, 0, 100);
        Check.refused("a refused run", x, Check.INDEX, () -> x.run(4, 0, 100));
        x.forget();
        Check.due("forget does not forget it", x.error(), 3);
    }

    private static void cost() {
        Check.sentence("13: Returns the cost of the latest execution, compilations included.");
        Check.due("no execution", new TieredMachine().cost(), 0);
        TieredMachine x = single(times(20, set(0, 1)));
        x.setPolicy(1, 1, 1);
        x.run(0, 0, 0);
        Check.due("compilations alone", x.cost(), 20 * 20 + 50 * 20);
        x.run(0, 0, 0);
        Check.due("nothing", x.cost(), 0);
        x.forget();
        x.setPolicy(1, 1000, 1);
        x.run(0, 0, 20);
        Check.due("a compilation and instructions", x.cost(), 20 * 20 + 4 * 20);
        TieredMachine y = caller(new int[][] {answer(2)}, answer(0));
        y.setPolicy(1, 1, 1);
        y.run(0, 0, 2);
        Check.due("the called one's compilations, the disappointment", y.cost(), 210 + 2 + 1 + 70);
        y.run(1, 0, 1);
        Check.due("of the latest one alone", y.cost(), 1);
    }

    private static void steps() {
        Check.sentence("14: Returns how many instructions the latest execution has done, the one with an error "
            + "included.");
        Check.due("no execution", new TieredMachine().steps(), 0);
        TieredMachine x = endings();
        int[] want = {2, 2, 1, 0};
        for (int method = 0; method < 4; method++) {
            x.run(method, 0, 2000);
            Check.due("method " + method, x.steps(), want[method]);
            x.run(method, 0, 0);
            Check.due("none", x.steps(), 0);
        }
        TieredMachine y = single(make(1, 0), send(0, 1, 1, 1));
        y.run(0, 0, 2);
        Check.due("error 2", y.error() + "," + y.steps(), "2,2");
        y.implement(0, 1, 0);
        y.run(0, 0, 2000);
        Check.due("error 3", y.error() + "," + y.steps(), "3,40");
    }

    private static void depth() {
        Check.sentence("15: Returns how many methods were running at the same time at most in the latest execution.");
        Check.due("no execution", new TieredMachine().depth(), 0);
        TieredMachine x = recursive();
        x.setPolicy(1000, 1000, 0);
        x.run(1, 0, 0);
        Check.due("an empty method without steps", x.depth(), 1);
        x.run(0, 0, 2000);
        Check.due("no SEND", x.depth(), 1);
        x.run(0, 1, 2000);
        Check.due("two calls, one behind the other", x.depth(), 2);
        for (int argument = 2; argument < 20; argument++) {
            x.run(0, argument, 2000);
            Check.due("argument " + argument, x.depth(), argument + 1);
        }
        x.run(0, 20, 2000);
        Check.due("too deep", x.depth(), 20);
        x.run(0, 5, 4);
        Check.due("before the SEND", x.depth(), 1);
        x.run(0, 5, 5);
        Check.due("after the SEND", x.depth(), 2);
        TieredMachine y = chain(1);
        method(y, make(1, 0), send(0, 0, 1, 0));
        y.run(0, 0, 10);
        Check.due("not understood", y.error() + "," + y.depth(), "2,1");
    }

    private static void totals() {
        Check.sentence("16: what: 0 compilations to tier 1, 1 compilations to tier 2, 2 disappointments, 3 switches. "
            + "Returns how many there were in all executions.");
        TieredMachine x = single(make(1, 0), send(2, 0, 1, 0), jump(0));
        x.implement(0, 0, x.addMethod());
        Check.due("no execution", Check.totals(x), "0,0,0,0");
        x.setPolicy(2, 1000, 0);
        x.run(0, 0, 3);
        Check.due("one switch", Check.totals(x), "1,0,0,1");
        x.run(1, 0, 0);
        Check.due("the second method", Check.totals(x), "2,0,0,1");
        x.setPolicy(2, 2, 1);
        x.run(0, 0, 0);
        Check.due("tier 2", Check.totals(x), "2,1,0,1");
        x.forget();
        x.setPolicy(1, 1, 1);
        x.run(0, 0, 2);
        Check.due("disappointed", Check.totals(x), "4,3,1,1");
        x.forget();
        x.append(0, Check.SET, 0, 0, 0, 0);
        x.implement(0, 0, -1);
        Check.due("nothing takes them away", Check.totals(x), "4,3,1,1");
        Check.refused("a refused run", x, Check.ARGUMENT, () -> x.run(0, 0, -1));
        x.run(0, 0, 0);
        Check.due("an execution without steps counts", Check.totals(x), "5,4,1,1");
    }

    private static void totalNoSuch() {
        Check.sentence("16: Throws IndexOutOfBoundsException if what is not 0 to 3");
        TieredMachine x = new TieredMachine();
        for (int bad : Check.outside(0, 3)) {
            Check.refused("total " + bad, x, Check.INDEX, () -> x.total(bad));
        }
        for (int what = 0; what < 4; what++) {
            Check.due("total " + what, x.total(what), 0);
        }
    }
}
