/**
 * The boundary cases that the document names under 'Execution', and in the two sentences on exceptions behind it: a
 * test for each sentence, in the document's order.
 */
final class ExecutionEdgesTest extends Programs {

    public static void main(String[] args) {
        stackOfRunningMethods();
        beginning();
        orderOfSteps();
        costOfAnInstruction();
        wrongValues();
        notUnderstood();
        searching();
        crowdedTrust();
        trustedIndex();
        disappointment();
        disappointmentOfAllRunningOnes();
        disappointmentOfNoOtherMethod();
        disappointmentOfTwenty();
        twentyMethods();
        tooDeepInstead();
        goingBack();
        switching();
        throwingChangesNothing();
        firstNamedException();
        Check.end();
    }

    private static void outcome(String what, TieredMachine x, String want) {
        Check.due(what, Check.outcome(x), want);
    }

    private static void learned(String what, TieredMachine x, String want) {
        Check.due(what, Check.learned(x, 0) + " " + Check.records(x, 0), want);
    }

    private static void stackOfRunningMethods() {
        Check.sentence("An execution has a stack of running methods; each of them has a running tier.");
        TieredMachine x = caller(new int[][] {answer(2)}, answer(0));
        x.setPolicy(2, 1000, 0);
        x.run(1, 0, 10);
        x.run(0, 6, 10);
        outcome("the called one in tier 1, its caller in tier 0", x,
            "result 6 class -1 error 0 cost " + (10 + 11 + 20 + 4 + 10) + " steps 4 depth 2");
        TieredMachine y = single(answer(0));
        y.run(0, 6, 1);
        outcome("a stack of one", y, "result 6 class -1 error 0 cost 10 steps 1 depth 1");
    }

    private static void beginning() {
        Check.sentence("When a method begins (also the first one), it is warmed, and its running tier is its tier "
            + "then.");
        TieredMachine x = single(set(0, 1), answer(0));
        x.setPolicy(1, 1000, 0);
        x.run(0, 0, 2);
        Check.due("the first one, at once in tier 1", x.cost(), 40 + 8);
        TieredMachine y = single(set(0, 1), answer(0));
        y.setPolicy(1, 1, 1);
        y.run(0, 0, 2);
        Check.due("the first one, at once in tier 2", y.cost(), 140 + 2);
        Check.due("that is no switch", Check.totals(y), "1,1,0,0");
        TieredMachine z = single(set(0, 1), answer(0));
        z.run(0, 0, 0);
        Check.due("it begins also where no instruction follows", Check.learned(z, 0), "0/1/0");
        TieredMachine w = recursive();
        w.setPolicy(3, 1000, 0);
        w.run(0, 2, 100);
        // Three begin; the third is compiled, and costs 4 for SET, LESS and RETURN. The two outer ones cost 10 for
        // each of their 8 instructions, and 1 for each of their SENDs.
        Check.due("a running tier stays when the tier rises", w.cost(), 160 + 3 * 4 + 2 * (80 + 2));
        Check.due("that is no switch", Check.totals(w), "1,0,0,0");
    }

    /** Twenty run; the twentieth one does this SEND, where register 0 is an int and register 3 an object of class 0. */
    private static TieredMachine atTheGreatestDepth(int[] last) {
        TieredMachine x = single(set(2, 1), make(3, 0), less(0, 2, 6), sub(0, 0, 2), send(0, 0, 3, 0), answer(0), last);
        x.implement(0, 0, 0);
        x.setPolicy(1000, 1000, 0);
        x.run(0, 19, 2000);
        return x;
    }

    private static void orderOfSteps() {
        Check.sentence("For each instruction, in this order");
        // Nineteen of them cost 50 for five instructions and 1 for the search, the last one 40 for four.
        int before = 19 * 51 + 40;
        String told = " steps " + (19 * 5 + 4) + " depth 20";
        outcome("the cost, then error 1", atTheGreatestDepth(send(0, 5, 0, 0)),
            "result 0 class -1 error 1 cost " + before + told);
        outcome("the cost, then error 2", atTheGreatestDepth(send(0, 5, 3, 0)),
            "result 0 class -1 error 2 cost " + before + told);
        TieredMachine x = atTheGreatestDepth(send(0, 0, 3, 0));
        outcome("the cost, then the search, then error 3", x,
            "result 0 class -1 error 3 cost " + (before + 1) + told);
        learned("the class is noted before error 3", x, "0/20/0 4:1[0] 6:1[0] ");
        TieredMachine y = single(jump(0));
        y.setPolicy(2, 1000, 0);
        y.run(0, 0, 1);
        Check.due("the cost, then the switch", y.cost(), 10 + 20);
    }

    private static void costOfAnInstruction() {
        Check.sentence("It costs 10, 4 or 1, if the running tier is 0, 1 or 2.");
        int[][] policies = {{1000, 1000, 0}, {1, 1000, 0}, {1, 1, 1}};
        int[] each = {10, 4, 1};
        int[] compilations = {0, 20, 70};
        int[][] kinds = {set(0, 1), add(0, 0, 0), sub(0, 0, 0), mul(0, 0, 0), make(0, 0), less(0, 1, 1), jump(1),
            answer(0), send(0, 0, 0, 0)};
        for (int tier = 0; tier < 3; tier++) {
            for (int[] kind : kinds) {
                TieredMachine x = single(kind);
                x.setPolicy(policies[tier][0], policies[tier][1], policies[tier][2]);
                x.run(0, 0, 1);
                Check.due("kind " + kind[0] + ", tier " + tier, x.cost(), compilations[tier] + each[tier]);
                Check.due("kind " + kind[0] + " is one step", x.steps(), 1);
            }
        }
    }

    private static void wrongValues() {
        Check.sentence("If a register that has to be an int (for ADD, SUB, MUL and LESS: both that are read) or an "
            + "object (for SEND: register c) is not, the execution ends with the error 1.");
        for (int kind : new int[] {Check.ADD, Check.SUB, Check.MUL}) {
            wrong("the first", Check.op(kind, 0, 1, 0));
            wrong("the second", Check.op(kind, 0, 0, 1));
            wrong("both", Check.op(kind, 0, 1, 1));
            right("only the written one", Check.op(kind, 1, 0, 0));
        }
        wrong("LESS, the first", less(1, 0, 0));
        wrong("LESS, the second", less(0, 1, 0));
        wrong("LESS, both", less(1, 1, 0));
        wrong("SEND to an int", send(1, 0, 0, 1));
        wrong("SEND of a selector that nobody understands to an int", send(1, 5, 0, 1));
        right("SET", set(1, 1));
        right("NEW", make(0, 0));
        right("SEND with an object", send(1, 0, 1, 1));
        right("SEND with an int", send(0, 0, 1, 0));
        right("RETURN of an object", answer(1));
        right("RETURN of an int", answer(0));
    }

    /** Register 0 is the int 5, register 1 an object of class 0, which understands selector 0. */
    private static TieredMachine withIntAndObject(int[] instruction) {
        TieredMachine x = single(make(1, 0), instruction, make(2, 0), answer(2));
        x.implement(0, 0, x.addMethod());
        return x;
    }

    private static void wrong(String what, int[] instruction) {
        TieredMachine x = withIntAndObject(instruction);
        Check.due(what + ", kind " + instruction[0], x.run(0, 5, 2), 2);
        outcome(what + ", kind " + instruction[0], x, "result 0 class -1 error 1 cost 20 steps 2 depth 1");
        Check.due(what + ": nothing is warmed", x.heat(0) + "," + x.heat(1), "1,0");
    }

    private static void right(String what, int[] instruction) {
        TieredMachine x = withIntAndObject(instruction);
        Check.due(what + ", kind " + instruction[0], x.run(0, 5, 10), 0);
        Check.due(what + ", kind " + instruction[0], x.error(), 0);
    }

    private static void notUnderstood() {
        Check.sentence("If the class of the object in a SEND understands no method for the selector, the execution "
            + "ends with the error 2.");
        // Class 1 is a child of class 0, which is no child; only class 1 implements selector 0.
        TieredMachine x = chain(2);
        method(x, make(1, 0), send(0, 0, 1, 0));
        method(x, make(1, 1), send(0, 0, 1, 0));
        x.implement(1, 0, x.addMethod());
        Check.due("a child's method is not understood", x.run(0, 0, 2), 2);
        outcome("a child's method is not understood", x, "result 0 class -1 error 2 cost 20 steps 2 depth 1");
        learned("nothing is noted", x, "0/1/0 1:0[] ");
        Check.due("the child's own is", x.run(1, 0, 3), 0);
        x.setPolicy(1, 1, 5);
        x.run(0, 0, 2);
        outcome("in tier 2 too", x, "result 0 class -1 error 2 cost 142 steps 2 depth 1");
        learned("nobody is disappointed", x, "2/2/0 1:0[] ");
        Check.due("for want of a step there is no error", x.run(0, 0, 1), 1);
        outcome("for want of a step there is no error", x, "result 0 class -1 error 0 cost 1 steps 1 depth 1");
    }

    /** Eight classes in a chain; method 0 sends selector 0 to an object of the class 7. */
    private static TieredMachine searcher(int implementer) {
        TieredMachine x = chain(8);
        method(x, make(1, 7), send(0, 0, 1, 0));
        x.implement(implementer, 0, x.addMethod());
        return x;
    }

    private static void searching() {
        Check.sentence("A SEND in the running tier 0 or 1 notes the class in its record, and costs as much as there "
            + "are classes from the class of the object up to the one that implements the selector, both included.");
        for (int implementer = 0; implementer < 8; implementer++) {
            TieredMachine x = searcher(implementer);
            x.setPolicy(2, 1000, 0);
            x.run(0, 0, 3);
            Check.due("tier 0, class " + implementer + " implements", x.cost(), 20 + 8 - implementer);
            learned("the object's class is noted", x, "0/1/0 1:1[7] ");
            x.run(0, 0, 3);
            Check.due("tier 1, class " + implementer + " implements", x.cost(), 40 + 8 + 8 - implementer);
            TieredMachine y = searcher(implementer);
            y.setPolicy(1, 1000, 0);
            y.run(0, 0, 3);
            learned("in tier 1 too", y, "1/1/0 1:1[7] ");
        }
        TieredMachine z = searcher(0);
        z.implement(4, 0, 1);
        z.run(0, 0, 3);
        Check.due("the search ends at the nearest one", z.cost(), 20 + 4);
    }

    private static void crowdedTrust() {
        Check.sentence("In the running tier 2: if the trusted record is crowded, it costs the same, but notes "
            + "nothing.");
        TieredMachine x = sender();
        x.setPolicy(1000, 1000, 0);
        for (int argument = 0; argument < 4; argument++) {
            x.run(0, argument, 100);
        }
        x.setPolicy(1, 1, 1);
        x.run(0, 0, 0);
        int[] costs = {5 + 1, 8 + 2, 11 + 2, 12 + 2};
        for (int argument = 0; argument < 4; argument++) {
            x.run(0, argument, 100);
            Check.due("class " + argument, x.cost(), costs[argument]);
            learned("class " + argument, x, "2/" + (argument + 6) + "/0 10:4[012] ");
        }
        x.implement(3, 0, 1);
        x.run(0, 3, 100);
        Check.due("a shorter search", x.cost(), 12 + 1);
    }

    private static void trustedIndex() {
        Check.sentence("If the class is in the trusted record, with the index i there, it costs i.");
        int[] instructions = {5, 8, 11, 12};
        int[][] orders = {{0, 1, 2}, {2, 1, 0}, {3, 0, 1}, {1}, {2, 3}};
        for (int[] order : orders) {
            TieredMachine x = sender();
            x.setPolicy(1000, 1000, 0);
            for (int argument : order) {
                x.run(0, argument, 100);
            }
            x.setPolicy(1, 1, 1);
            x.run(0, 0, 0);
            for (int i = 0; i < order.length; i++) {
                x.run(0, order[i], 100);
                Check.due("class " + order[i] + " with the index " + i, x.cost(), instructions[order[i]] + i);
            }
            Check.due("no disappointment", Check.totals(x), "2,2,0,0");
        }
    }

    private static void disappointment() {
        Check.sentence("Otherwise the method is disappointed: the class is noted; the disappointments of the method "
            + "increase by 1, its tier and its heat become 0, and so do the running tiers of all of its running "
            + "executions; and this SEND costs as much as one in the running tier 0 or 1 (beside what it has cost in "
            + "step 1).");
        for (int implementer = 0; implementer < 8; implementer++) {
            TieredMachine x = searcher(implementer);
            Check.append(x, 0, answer(0));
            x.setPolicy(1, 1, 1);
            x.run(0, 0, 4);
            Check.due("class " + implementer + " implements", x.cost(), 210 + 2 + (8 - implementer) + 10);
            learned("class " + implementer + " implements", x, "0/0/1 1:1[7] ");
            Check.due("in all", Check.totals(x), "2,2,1,0");
            Check.due("the called one stays as it is", Check.learned(x, 1), "2/1/0");
        }
        TieredMachine y = doubleSender();
        y.setPolicy(1000, 1000, 0);
        for (int argument = 0; argument < 3; argument++) {
            y.run(0, argument, 100);
        }
        y.setPolicy(1, 1, 5);
        y.run(0, 3, 100);
        learned("the fourth class: it makes the record crowded", y, "0/0/1 12:0[] 13:4[012] ");
        y.run(0, 4, 100);
        learned("the other SEND", y, "0/0/2 12:1[3] 13:4[012] ");
    }

    /**
     * The innermost one but one is disappointed by its second SEND; then the five outer ones cost 10 for NEW, SEND
     * and RETURN, and search. Each of the six has done five instructions in tier 2 before, the innermost one three.
     */
    private static void disappointmentOfAllRunningOnes() {
        TieredMachine x = recursive();
        x.setPolicy(1, 2, 5);
        x.run(0, 1, 100);
        x.run(0, 6, 100);
        Check.due("all of them go back", x.cost(), 6 * 5 + 3 + (1 + 1 + 1 + 10) + 5 * (10 + 10 + 1 + 10));
        learned("but only one was disappointed", x, "0/0/1 4:1[0] 6:1[1] ");
        Check.due("the called one is another method", x.tier(1), 2);
    }

    /** Method 1 sends to an object of class 0, or of class 1 if its argument is not below 1. */
    private static void disappointmentOfNoOtherMethod() {
        TieredMachine x = chain(2);
        method(x, make(1, 0), send(2, 0, 1, 0), answer(2));
        x.implement(0, 0, method(x, set(2, 1), make(3, 0), less(0, 2, 4), make(3, 1), send(3, 1, 3, 0), answer(0)));
        x.implement(0, 1, x.addMethod());
        x.setPolicy(1, 2, 5);
        x.run(0, 0, 100);
        x.run(0, 0, 100);
        x.run(0, 1, 100);
        Check.due("its caller still runs in tier 2", x.cost(), 2 + 4 + (1 + 2) + 10 + 1);
        learned("its caller still has the tier 2", x, "2/3/0 1:1[0] ");
        Check.due("it has gone back", Check.learned(x, 1), "0/0/1");
    }

    /** The argument counts down to 1; the twentieth one, and only it, sends to an object of class 1. */
    private static void disappointmentOfTwenty() {
        TieredMachine x = chain(2);
        method(x, set(2, 1), make(3, 0), less(2, 0, 4), make(3, 1), sub(0, 0, 2), send(0, 0, 3, 0));
        x.implement(0, 0, 0);
        x.setPolicy(1, 21, 5);
        x.run(0, 100, 2000);
        learned("twenty begin", x, "1/20/0 5:1[0] ");
        x.run(0, 20, 2000);
        outcome("the twentieth is disappointed before it is too deep", x,
            "result 0 class -1 error 3 cost " + (6 * 50 + 19 * 5 + 6 + 2) + " steps 101 depth 20");
        learned("the twentieth is disappointed before it is too deep", x, "0/0/1 5:2[01] ");
    }

    private static void twentyMethods() {
        Check.sentence("It does what was said. If a SEND would make more than 20 methods run at the same time, the "
            + "execution ends with the error 3 instead.");
        TieredMachine x = recursive();
        x.setPolicy(1000, 1000, 0);
        Check.due("nineteen", x.run(0, 18, 2000), 0);
        Check.due("nineteen", x.depth(), 19);
        Check.due("just twenty", x.run(0, 19, 2000), 0);
        Check.due("just twenty", x.depth() + "," + x.error(), "20,0");
        Check.due("twenty-one", x.run(0, 20, 2000), 2);
        Check.due("twenty-one", x.depth() + "," + x.error(), "20,3");
        // Place 4 is the SEND, so the twentieth one has done five instructions, as the others.
        Check.due("twenty-one", x.steps(), 20 * 5);
        TieredMachine y = caller(new int[][] {jump(1)});
        y.setPolicy(1000, 1000, 0);
        Check.due("many, but one behind the other", y.run(0, 0, 2000), 1);
        Check.due("many, but one behind the other", y.depth() + "," + y.heat(1), "2,1000");
    }

    private static void tooDeepInstead() {
        TieredMachine x = single(make(1, 0), send(0, 3, 1, 0));
        x.implement(0, 3, 0);
        x.setPolicy(1000, 1000, 0);
        Check.due("one step before", x.run(0, 5, 39), 1);
        outcome("one step before", x, "result 0 class -1 error 0 cost 409 steps 39 depth 20");
        x.forget();
        Check.due("too deep", x.run(0, 5, 40), 2);
        outcome("the SEND has noted and paid", x, "result 0 class -1 error 3 cost 420 steps 40 depth 20");
        learned("but the twenty-first one does not begin", x, "0/20/0 1:1[0] ");
        TieredMachine y = single(make(1, 0), send(0, 3, 1, 0), answer(0));
        y.implement(0, 3, 0);
        y.setPolicy(20, 20, 1);
        y.run(0, 5, 2000);
        outcome("the twentieth one trusts the class", y,
            "result 0 class -1 error 3 cost " + (19 * 21 + 210 + 2) + " steps 40 depth 20");
    }

    private static void goingBack() {
        Check.sentence("If a LESS or a JUMP goes to a place that is not greater than its own one, the method is "
            + "warmed");
        for (int place = 0; place <= 20; place++) {
            int[][] jumper = times(20, answer(0));
            jumper[0] = less(1, 0, 10);
            jumper[10] = jump(place);
            heatAfterTwo("JUMP from 10 to " + place, place <= 10 ? 2 : 1, jumper);
            jumper[10] = less(1, 0, place);
            heatAfterTwo("LESS from 10 to " + place, place <= 10 ? 2 : 1, jumper);
            jumper[10] = less(0, 1, place);
            heatAfterTwo("LESS that does not go to " + place, 1, jumper);
        }
        heatAfterTwo("JUMP from 0 to 0, twice", 3, jump(0));
        heatAfterTwo("LESS from 0 to 0, twice", 3, less(1, 0, 0));
    }

    private static void heatAfterTwo(String what, int want, int[]... instructions) {
        TieredMachine x = single(instructions);
        x.run(0, 1, 2);
        Check.due(what, x.heat(0), want);
        Check.due(what, x.steps(), 2);
    }

    private static void switching() {
        Check.sentence("then, if its tier is greater than the running tier, the running tier becomes the tier; that "
            + "is a switch.");
        switches("the same tier", 1000, 1000, 0, 10 + 10 + 10 + 10, 0);
        switches("from 0 to 1 by the last one", 5, 1000, 0, 10 + 10 + 10 + 10 + 20, 1);
        switches("from 0 to 1", 4, 1000, 0, 10 + 10 + 10 + 20 + 4, 1);
        switches("from 0 to 1 to 2", 2, 4, 1, 10 + 20 + 4 + 4 + 50 + 1, 2);
        switches("from 0 to 2 is one switch", 3, 3, 1, 10 + 10 + 70 + 1 + 1, 1);
        switches("from 1 to 2", 1, 2, 1, 20 + 4 + 50 + 1 + 1 + 1, 1);
        switches("at 2 already", 1, 1, 1, 70 + 4, 0);
        // The inner one is compiled when it begins; the outer one only sees it when it goes back, from place 5.
        TieredMachine x = single(set(2, 1), less(0, 2, 6), sub(0, 0, 2), make(3, 0), send(1, 0, 3, 0), jump(1),
            answer(0));
        x.implement(0, 0, 0);
        x.setPolicy(2, 1000, 0);
        x.run(0, 1, 100);
        Check.due("a tier that another execution has brought", x.cost(), 50 + 1 + 140 + 12 + 10 + 8);
        Check.due("a tier that another execution has brought", Check.totals(x), "1,0,0,1");
        switchOfTheInnerOneAlone();
    }

    /** The inner one, with the argument 1, goes back once, from 8 to 6; it returns from 9, the outer one from 5. */
    private static void switchOfTheInnerOneAlone() {
        TieredMachine x = single(set(2, 1), sub(0, 0, 2), less(0, 2, 6), make(3, 0), send(1, 0, 3, 0), answer(1),
            less(2, 3, 9), set(3, 5), jump(6), answer(0));
        x.implement(0, 0, 0);
        x.setPolicy(3, 1000, 0);
        x.run(0, 2, 100);
        Check.due("the outer one stays in tier 0", x.cost(), (50 + 1) + (60 + 200 + 8) + 10);
        Check.due("the outer one stays in tier 0", Check.totals(x), "1,0,0,1");
    }

    /** Four steps, each a jump to its own place. */
    private static void switches(String what, int first, int second, int budget, int cost, int count) {
        TieredMachine x = single(jump(0));
        x.setPolicy(first, second, budget);
        x.run(0, 0, 4);
        Check.due(what + ": cost", x.cost(), cost);
        Check.due(what + ": switches", x.total(3), count);
    }

    /** A machine in which all counts are full, with something learned, and a latest execution that has a cost. */
    private static TieredMachine full() {
        TieredMachine x = doubleSender();
        for (int i = 4; i < 8; i++) {
            x.addClass(i - 1);
        }
        for (int i = 2; i < 12; i++) {
            method(x, set(1, i), answer(1));
        }
        Check.append(x, 0, times(5, answer(0)));
        x.setPolicy(2, 3, 4);
        for (int argument : new int[] {1, 1, 1, 2, 2, 2, 2}) {
            x.run(0, argument, 100);
        }
        return x;
    }

    private static void refuseAll(TieredMachine x) {
        for (int bad : Check.outside(-1, 7)) {
            Check.refused("addClass", x, Check.INDEX, () -> x.addClass(bad));
        }
        Check.refused("addClass", x, Check.STATE, () -> x.addClass(-1));
        Check.refused("addMethod", x, Check.STATE, () -> x.addMethod());
        Check.refused("append, full", x, Check.STATE, () -> x.append(0, Check.SET, 0, 0, 0, 0));
        Check.refused("append, kind", x, Check.ARGUMENT, () -> x.append(1, 9, 0, 0, 0, 0));
        Check.refused("append, operand", x, Check.ARGUMENT, () -> x.append(1, Check.SET, 4, 0, 0, 0));
        for (int bad : Check.outside(0, 11)) {
            Check.refused("append", x, Check.INDEX, () -> x.append(bad, Check.SET, 0, 0, 0, 0));
            Check.refused("run", x, Check.INDEX, () -> x.run(bad, 0, 100));
            Check.refused("tier", x, Check.INDEX, () -> x.tier(bad));
            Check.refused("heat", x, Check.INDEX, () -> x.heat(bad));
            Check.refused("disappointments", x, Check.INDEX, () -> x.disappointments(bad));
            Check.refused("met", x, Check.INDEX, () -> x.met(bad, 13));
            Check.refused("metClass", x, Check.INDEX, () -> x.metClass(bad, 13, 0));
        }
        Check.refused("implement, class", x, Check.INDEX, () -> x.implement(8, 0, 2));
        Check.refused("implement, selector", x, Check.INDEX, () -> x.implement(2, 6, 2));
        Check.refused("implement, method", x, Check.INDEX, () -> x.implement(2, 0, 12));
        Check.refused("understands", x, Check.INDEX, () -> x.understands(8, 0));
        Check.refused("setPolicy, first", x, Check.ARGUMENT, () -> x.setPolicy(0, 9, 1));
        Check.refused("setPolicy, second", x, Check.ARGUMENT, () -> x.setPolicy(9, 1001, 1));
        Check.refused("setPolicy, budget", x, Check.ARGUMENT, () -> x.setPolicy(9, 9, 6));
        Check.refused("run, steps", x, Check.ARGUMENT, () -> x.run(0, 0, 2001));
        Check.refused("total", x, Check.INDEX, () -> x.total(4));
        Check.refused("met, no SEND", x, Check.INDEX, () -> x.met(0, 0));
        Check.refused("metClass, no index", x, Check.INDEX, () -> x.metClass(0, 13, 3));
    }

    private static void throwingChangesNothing() {
        Check.sentence("A method of this class that throws an exception changes nothing.");
        TieredMachine x = full();
        Check.due("something to change", Check.learned(x, 0) + " " + x.cost(), "2/3/1 " + (1000 + 12));
        refuseAll(x);
        TieredMachine y = full();
        Check.due("the settings", x.setPolicy(2, 3, 4), false);
        for (int argument : new int[] {2, 3, 0, 4, 1, 1, 1, 2, 3, 4}) {
            x.run(0, argument, 100);
            y.run(0, argument, 100);
            Check.due("afterwards, run of " + argument, Check.picture(x), Check.picture(y));
        }
        Check.due("a place that was refused is not taken", x.append(1, Check.SET, 0, 0, 0, 0), 0);
    }

    private static void firstNamedException() {
        Check.sentence("If several exceptions apply, the one that is named first is thrown.");
        TieredMachine x = full();
        for (int bad : Check.outside(-1, 7)) {
            Check.refused("no such parent, 8 classes", x, Check.INDEX, () -> x.addClass(bad));
        }
        int[][] wrong = {{9, 0, 0, 0, 0}, {-1, 0, 0, 0, 0}, {Check.SET, 4, 0, 0, 0}, {Check.ADD, 0, -1, 0, 0},
            {Check.MUL, 0, 0, 4, 0}, {Check.NEW, 0, 8, 0, 0}, {Check.SEND, 0, 6, 0, 0}, {Check.SEND, 0, 0, 0, 4},
            {Check.LESS, 0, 0, 21, 0}, {Check.JUMP, 21, 0, 0, 0}, {Check.RETURN, -1, 0, 0, 0}};
        for (int[] w : wrong) {
            Check.refused("a wrong instruction, a full method: kind " + w[0], x, Check.ARGUMENT,
                () -> x.append(0, w[0], w[1], w[2], w[3], w[4]));
            Check.refused("no such method, a wrong instruction: kind " + w[0], x, Check.INDEX,
                () -> x.append(12, w[0], w[1], w[2], w[3], w[4]));
        }
        for (int steps : Check.outside(0, 2000)) {
            Check.refused("no such method, steps " + steps, x, Check.INDEX, () -> x.run(12, 0, steps));
            Check.refused("no such method, steps " + steps, x, Check.INDEX, () -> x.run(-1, 0, steps));
        }
    }
}
