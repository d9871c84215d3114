/** The boundary cases that the document names before 'Tiers': a test for each sentence, in the document's order. */
final class LanguageEdgesTest extends Programs {
    private static final int MIN = Integer.MIN_VALUE;
    private static final int MAX = Integer.MAX_VALUE;

    public static void main(String[] args) {
        fiveHundredAndTwelveCalls();
        intsWrapAround();
        eightClasses();
        sixSelectors();
        twelveMethodsOfTwentyInstructions();
        implementing();
        understanding();
        registersAtFirst();
        setAddSubMulNew();
        send();
        lessJumpReturn();
        placeWithoutInstruction();
        unnamedOperands();
        Check.end();
    }

    /** The first 510 of 512 calls, among them 507 of the longest runs. */
    private static TieredMachine afterCalls510() {
        TieredMachine x = new TieredMachine();
        x.setPolicy(1000, 1000, 0);
        x.addMethod();
        x.append(0, Check.JUMP, 0, 0, 0, 0);
        for (int call = 4; call <= 510; call++) {
            x.run(0, 0, 2000);
        }
        return x;
    }

    private static void fiveHundredAndTwelveCalls() {
        Check.sentence("An object is used for at most 512 calls after it has been made; what later calls answer is "
            + "free.");
        TieredMachine x = afterCalls510();
        Check.due("call 511", x.heat(0), 507 * 2001);
        Check.due("call 512", x.cost(), 8000);
        TieredMachine y = afterCalls510();
        Check.due("call 511", y.run(0, MAX, 2000), 1);
        Check.due("call 512", y.heat(0), 508 * 2001);
        TieredMachine z = new TieredMachine();
        z.addMethod();
        for (int call = 2; call <= 511; call++) {
            try {
                z.run(1, 0, 0);
                Check.complain("call " + call + " was not refused");
            } catch (IndexOutOfBoundsException e) {
                // It is due.
            }
        }
        Check.due("call 512, after 510 refused ones", z.addMethod(), 1);
    }

    private static void intsWrapAround() {
        Check.sentence("A value is an int (32 bits, wrapping around), or an object of a class.");
        calculates(add(2, 0, 1), MAX, 1, MIN);
        calculates(add(2, 0, 1), MIN, -1, MAX);
        calculates(add(2, 0, 1), MAX, MAX, -2);
        calculates(add(2, 0, 1), MIN, MIN, 0);
        calculates(add(2, 0, 1), MAX - 1, 1, MAX);
        calculates(sub(2, 0, 1), MIN, 1, MAX);
        calculates(sub(2, 0, 1), MAX, -1, MIN);
        calculates(sub(2, 0, 1), 0, MIN, MIN);
        calculates(sub(2, 0, 1), MIN, MIN, 0);
        calculates(sub(2, 0, 1), -1, MAX, MIN);
        calculates(mul(2, 0, 1), MIN, -1, MIN);
        calculates(mul(2, 0, 1), 65536, 32768, MIN);
        calculates(mul(2, 0, 1), 65536, 65536, 0);
        calculates(mul(2, 0, 1), 46341, 46341, -2147479015);
        calculates(mul(2, 0, 1), 46340, 46340, 2147395600);
        calculates(mul(2, 0, 1), MAX, MAX, 1);
        calculates(set(2, MAX), 0, 0, MAX);
        calculates(set(2, MIN), 0, 0, MIN);
    }

    private static void calculates(int[] instruction, int left, int right, int want) {
        TieredMachine x = single(set(1, right), instruction, answer(2));
        x.run(0, left, 3);
        Check.due("kind " + instruction[0] + " of " + left + " and " + right, x.result(), want);
        Check.due("an int has no class", x.resultClass(), -1);
    }

    private static void eightClasses() {
        Check.sentence("There are at most 8 classes, numbered from 0; a class has a parent, or none.");
        for (int parent : new int[] {-1, 0}) {
            TieredMachine x = new TieredMachine();
            Check.due("class 0", x.addClass(-1), 0);
            for (int i = 1; i < 8; i++) {
                Check.due("class " + i, x.addClass(parent), i);
            }
            Check.refused("a ninth class", x, Check.STATE, () -> x.addClass(parent));
            method(x, make(0, 7), answer(0));
            x.run(0, 0, 2);
            Check.due("an object of the last class", x.resultClass(), 7);
            Check.refused("an object of class 8", x, Check.ARGUMENT, () -> x.append(0, Check.NEW, 0, 8, 0, 0));
            x.implement(0, 0, 0);
            Check.due("what the parent of class 7 understands", x.understands(7, 0), parent);
        }
    }

    private static void sixSelectors() {
        Check.sentence("There are 6 selectors, 0 to 5.");
        TieredMachine x = chain(1);
        for (int selector = 0; selector < 6; selector++) {
            method(x, set(0, 100 + selector), answer(0));
            x.implement(0, selector, selector);
        }
        for (int selector = 0; selector < 6; selector++) {
            int caller = method(x, make(1, 0), send(0, selector, 1, 0), answer(0));
            Check.due("understands", x.understands(0, selector), selector);
            x.run(caller, 0, 5);
            Check.due("selector " + selector, x.result(), 100 + selector);
        }
        for (int bad : Check.outside(0, 5)) {
            Check.refused("implement " + bad, x, Check.INDEX, () -> x.implement(0, bad, 0));
            Check.refused("understands " + bad, x, Check.INDEX, () -> x.understands(0, bad));
            Check.refused("SEND " + bad, x, Check.ARGUMENT, () -> x.append(0, Check.SEND, 0, bad, 0, 0));
        }
    }

    private static void twelveMethodsOfTwentyInstructions() {
        Check.sentence("There are at most 12 methods, numbered from 0; a method has at most 20 instructions, whose "
            + "places are numbered from 0.");
        TieredMachine x = new TieredMachine();
        for (int i = 0; i < 12; i++) {
            int number = i;
            Check.due("method", x.addMethod(), number);
            for (int place = 0; place < 19; place++) {
                Check.due("place", x.append(number, Check.SET, 1, 100 * number + place, 0, 0), place);
            }
            Check.due("the last place", x.append(number, Check.RETURN, 1, 0, 0, 0), 19);
            Check.refused("place 20", x, Check.STATE, () -> x.append(number, Check.RETURN, 0, 0, 0, 0));
        }
        Check.refused("method 12", x, Check.STATE, () -> x.addMethod());
        for (int i = 0; i < 12; i++) {
            Check.due("run of method " + i, x.run(i, 0, 20), 0);
            Check.due("the result of method " + i, x.result(), 100 * i + 18);
            Check.due("the steps of method " + i, x.steps(), 20);
        }
    }

    private static void implementing() {
        Check.sentence("A class can implement a selector by a method.");
        TieredMachine x = chain(2);
        x.addMethod();
        for (int selector = 0; selector < 6; selector++) {
            for (int type = 0; type < 2; type++) {
                Check.due("one method for all of them", x.implement(type, selector, 0), 0);
            }
            Check.due("understands", x.understands(1, selector), 0);
        }
    }

    private static void understanding() {
        Check.sentence("The method that a class understands for a selector is the one by which it implements the "
            + "selector; if it does not, the one that its parent understands, if there is a parent.");
        for (int implementer = 0; implementer < 8; implementer++) {
            TieredMachine x = chain(8);
            x.addMethod();
            x.addMethod();
            for (int type = 0; type < 8; type++) {
                Check.due("none implements it: class " + type, x.understands(type, 5), -1);
            }
            x.implement(implementer, 5, 1);
            for (int type = 0; type < 8; type++) {
                Check.due("class " + implementer + " implements, class " + type + " understands",
                    x.understands(type, 5), type < implementer ? -1 : 1);
                Check.due("another selector", x.understands(type, 4), -1);
            }
            x.implement(0, 5, 0);
            Check.due("the nearest one counts", x.understands(7, 5), implementer == 0 ? 0 : 1);
        }
        TieredMachine y = new TieredMachine();
        y.addMethod();
        y.addClass(-1);
        y.addClass(-1);
        y.implement(0, 0, 0);
        Check.due("without a parent", y.understands(1, 0), -1);
    }

    private static void registersAtFirst() {
        Check.sentence("A method that is executed has 4 registers, 0 to 3, which are the int 0 at first.");
        registersAfter(make(0, 0), make(2, 0), make(3, 0));
        registersAfter(set(0, 8), set(2, 8), set(3, 8));
        TieredMachine x = single();
        for (int bad : Check.outside(0, 3)) {
            Check.refused("register " + bad, x, Check.ARGUMENT, () -> x.append(0, Check.RETURN, bad, 0, 0, 0));
        }
    }

    /** Twenty running methods have filled their registers before, by these instructions. */
    private static void registersAfter(int[]... filling) {
        TieredMachine x = chain(1);
        x.setPolicy(1000, 1000, 0);
        int filler = method(x, filling);
        Check.append(x, filler, make(1, 0), send(0, 0, 1, 0));
        x.implement(0, 0, filler);
        for (int register = 0; register < 4; register++) {
            int told = method(x, answer(register));
            int caller = method(x, make(1, 0), make(2, 0), set(3, 8), set(0, 7), send(0, 1, 1, 0), answer(0));
            x.implement(0, 1, told);
            x.run(filler, 8, 2000);
            Check.due("twenty ran", x.error() + "," + x.depth(), "3,20");
            x.run(told, 7, 1);
            Check.due("register " + register, x.result() + "," + x.resultClass(), register == 0 ? "7,-1" : "0,-1");
            x.run(filler, 8, 2000);
            x.run(caller, 7, 10);
            String[] want = {"7,-1", "0,0", "0,-1", "0,-1"};
            Check.due("register " + register + " of a called one", x.result() + "," + x.resultClass(), want[register]);
        }
    }

    private static void setAddSubMulNew() {
        Check.sentence("0 SET: register a becomes the int b. 1 ADD, 2 SUB, 3 MUL: register a becomes register b plus, "
            + "minus, times register c. 4 NEW: register a becomes an object of the class b.");
        for (int a = 0; a < 4; a++) {
            becomes(a, "-9,-1", set(a, -9), answer(a));
            becomes(a, "-9,-1", make(a, 7), set(a, -9), answer(a));
            becomes(a, "0,7", make(a, 7), answer(a));
            becomes(a, "0,0", set(a, -9), make(a, 7), make(a, 0), answer(a));
            becomes(a, "12,-1", set(a, 6), add(a, a, a), answer(a));
            becomes(a, "0,-1", set(a, 6), sub(a, a, a), answer(a));
            becomes(a, "36,-1", set(a, 6), mul(a, a, a), answer(a));
            int b = (a + 1) % 4;
            int c = (a + 2) % 4;
            becomes(a, "15,-1", set(b, 8), set(c, 7), add(a, b, c), answer(a));
            becomes(a, "1,-1", set(b, 8), set(c, 7), sub(a, b, c), answer(a));
            becomes(a, "56,-1", set(b, 8), set(c, 7), mul(a, b, c), answer(a));
            becomes(b, "8,-1", set(b, 8), set(c, 7), sub(a, b, c), answer(b));
        }
    }

    private static void becomes(int register, String want, int[]... instructions) {
        TieredMachine x = chain(8);
        method(x, instructions);
        Check.due("it ends", x.run(0, 0, instructions.length), 0);
        Check.due("register " + register, x.result() + "," + x.resultClass(), want);
    }

    private static void send() {
        Check.sentence("5 SEND: the method that the class of the object in register c understands for the selector b "
            + "is executed; its register 0 is register d of this one, its register 1 is the object. Its result comes "
            + "into register a.");
        for (int object = 0; object < 4; object++) {
            int argument = (object + 1) % 4;
            int result = (object + 2) % 4;
            sends("the argument", 0, "5,-1", set(argument, 5), make(object, 1), send(result, 5, object, argument),
                answer(result));
            sends("the object", 1, "0,1", set(argument, 5), make(object, 1), send(result, 5, object, argument),
                answer(result));
            sends("the argument stays", 2, "5,-1", set(argument, 5), make(object, 1),
                send(result, 5, object, argument), answer(argument));
            sends("the object stays", 2, "0,1", set(argument, 5), make(object, 1),
                send(result, 5, object, argument), answer(object));
            sends("all in one register", 0, "0,1", make(object, 1), send(object, 5, object, object), answer(object));
            sends("an int in the object's place", 2, "0,-1", make(object, 1), send(object, 5, object, argument),
                answer(object));
        }
    }

    /** Class 1 understands selector 5, by its parent 0; the called method returns this register of it. */
    private static void sends(String what, int told, String want, int[]... instructions) {
        TieredMachine x = chain(2);
        method(x, answer(told));
        x.implement(0, 5, 0);
        method(x, instructions);
        Check.due(what + ": it ends", x.run(1, 0, 10), 0);
        Check.due(what, x.result() + "," + x.resultClass(), want);
    }

    private static void lessJumpReturn() {
        Check.sentence("6 LESS: if register a is less than register b, the execution goes on at place c. 7 JUMP: the "
            + "execution goes on at place a. 8 RETURN: the method ends with the result in register a.");
        int[][] lesser = {{MIN, MAX}, {MIN, MIN + 1}, {MAX - 1, MAX}, {-1, 0}, {0, 1}, {MIN, 0}, {-1, MAX}};
        for (int[] pair : lesser) {
            Check.due(pair[0] + " is less than " + pair[1], goesOn(pair[0], pair[1]), 200);
            Check.due(pair[1] + " is not less than " + pair[0], goesOn(pair[1], pair[0]), 100);
            Check.due(pair[0] + " is not less than itself", goesOn(pair[0], pair[0]), 100);
        }
        TieredMachine x = single(less(0, 0, 2), answer(0), set(0, 9), answer(0));
        x.run(0, 5, 5);
        Check.due("a register is not less than itself", x.result(), 5);
        int[][] full = times(20, set(0, 1));
        full[0] = jump(19);
        full[19] = answer(0);
        TieredMachine y = single(full);
        Check.due("to the last place", y.run(0, 3, 2), 0);
        Check.due("to the last place", y.result(), 3);
        TieredMachine z = single(less(1, 0, 3), set(0, 4), answer(0), set(0, 0), jump(0));
        Check.due("to the first place", z.run(0, 1, 6), 0);
        Check.due("to the first place", z.result() + "," + z.steps(), "4,6");
    }

    private static int goesOn(int left, int right) {
        TieredMachine x = single(set(1, right), less(0, 1, 4), set(2, 100), answer(2), set(2, 200), answer(2));
        x.run(0, left, 10);
        return x.result();
    }

    private static void placeWithoutInstruction() {
        Check.sentence("At a place that has no instruction, the method ends with the int 0 as its result, without a "
            + "cost.");
        endsWithZero("no instructions", 0);
        endsWithZero("behind the last one", 1, set(0, 7));
        endsWithZero("an object in register 0", 1, make(0, 0));
        endsWithZero("behind a full method", 20, times(20, set(0, 7)));
        endsWithZero("JUMP to the next place", 1, jump(1));
        endsWithZero("JUMP to place 20", 1, jump(20), answer(0));
        endsWithZero("LESS to place 20", 1, less(1, 0, 20), answer(0));
        endsWithZero("LESS to the first place without an instruction", 1, less(1, 0, 2), answer(0));
        TieredMachine x = caller(new int[][] {answer(2)}, set(0, 7), jump(3));
        x.run(0, 7, 10);
        Check.due("it is the result for a caller", Check.outcome(x),
            "result 0 class -1 error 0 cost 51 steps 5 depth 2");
    }

    /** It is run in the tiers 0, 1 and 2, with the argument 7. */
    private static void endsWithZero(String what, int done, int[]... instructions) {
        TieredMachine x = single(instructions);
        int[][] policies = {{1000, 1000, 0}, {1, 1000, 0}, {1, 1, 1}};
        int[] compilation = {0, 20, 50};
        int[] each = {10, 4, 1};
        for (int tier = 0; tier < 3; tier++) {
            x.setPolicy(policies[tier][0], policies[tier][1], policies[tier][2]);
            Check.due(what + ": it ends", x.run(0, 7, done + 1), 0);
            int cost = compilation[tier] * instructions.length + each[tier] * done;
            Check.due(what + ", tier " + tier, Check.outcome(x),
                "result 0 class -1 error 0 cost " + cost + " steps " + done + " depth 1");
        }
    }

    private static void unnamedOperands() {
        Check.sentence("Operands that are not named have no meaning.");
        String want = pictureWith(0);
        for (int any : new int[] {MIN, -1, 1, 3, 4, 5, 6, 20, 21, MAX}) {
            Check.due("with " + any, pictureWith(any), want);
        }
    }

    private static String pictureWith(int any) {
        TieredMachine x = chain(1);
        x.addMethod();
        x.implement(0, 0, 0);
        method(x,
            new int[] {Check.SET, 1, 9, any, any},
            new int[] {Check.ADD, 0, 0, 1, any},
            new int[] {Check.SUB, 0, 0, 1, any},
            new int[] {Check.MUL, 0, 0, 1, any},
            new int[] {Check.NEW, 2, 0, any, any},
            new int[] {Check.SEND, 3, 0, 2, 2},
            new int[] {Check.LESS, 0, 1, 8, any},
            new int[] {Check.JUMP, 0, any, any, any},
            new int[] {Check.RETURN, 0, any, any, any});
        String text = "";
        for (int i = -2; i < 3; i++) {
            x.run(1, i, 2000);
            text += Check.picture(x) + "; ";
        }
        return text;
    }
}
