/** Promises 1 to 8. */
final class ProgramTest extends Programs {

    public static void main(String[] args) {
        newObject();
        addClass();
        addMethod();
        appendRegisters();
        appendOtherOperands();
        appendOrderOfExceptions();
        appendUnlearns();
        implement();
        implementLetsFall();
        implementLooksAtWhatIsTrusted();
        implementAndCrowdedRecords();
        implementFromAndToNothing();
        understands();
        setPolicy();
        policyCountsWhenWarmed();
        forget();
        Check.end();
    }

    private static void newObject() {
        TieredMachine x = new TieredMachine();
        Check.due("1 outcome", Check.outcome(x), "result 0 class -1 error 0 cost 0 steps 0 depth 0");
        Check.due("1 totals", Check.totals(x), "0,0,0,0");
        Check.due("1 digest", x.digest(), 97L * 31 * 31 * 31 * 31 * 31);
        Check.due("1 forget", x.forget(), 0);
        Check.refused("1 tier(0)", x, Check.INDEX, () -> x.tier(0));
        Check.refused("1 run(0, 0, 0)", x, Check.INDEX, () -> x.run(0, 0, 0));
        Check.refused("1 understands(0, 0)", x, Check.INDEX, () -> x.understands(0, 0));
        Check.due("1 the settings at first", x.setPolicy(5, 20, 2), false);
    }

    private static void addClass() {
        TieredMachine x = new TieredMachine();
        Check.refused("2 addClass(0) as its own parent", x, Check.INDEX, () -> x.addClass(0));
        Check.due("2 addClass(-1)", x.addClass(-1), 0);
        Check.refused("2 addClass(1)", x, Check.INDEX, () -> x.addClass(1));
        Check.refused("2 addClass(-2)", x, Check.INDEX, () -> x.addClass(-2));
        Check.refused("2 addClass(MIN)", x, Check.INDEX, () -> x.addClass(Integer.MIN_VALUE));
        Check.refused("2 addClass(MAX)", x, Check.INDEX, () -> x.addClass(Integer.MAX_VALUE));
        for (int i = 1; i < 8; i++) {
            Check.due("2 addClass(i - 1)", x.addClass(i - 1), i);
        }
        Check.refused("2 a ninth class", x, Check.STATE, () -> x.addClass(-1));
        Check.refused("2 a ninth class with a parent", x, Check.STATE, () -> x.addClass(7));
        Check.refused("2 a ninth class without such a parent", x, Check.INDEX, () -> x.addClass(8));
        x.addMethod();
        x.implement(0, 4, 0);
        Check.due("2 the parents go on to the first class", x.understands(7, 4), 0);
    }

    private static void addMethod() {
        TieredMachine x = new TieredMachine();
        for (int i = 0; i < 12; i++) {
            Check.due("3 addMethod()", x.addMethod(), i);
            Check.due("3 a new method", Check.learned(x, i), "0/0/0");
        }
        Check.refused("3 a thirteenth method", x, Check.STATE, () -> x.addMethod());
        Check.due("3 without instructions", x.append(11, Check.SET, 0, 0, 0, 0), 0);
    }

    /** For each kind, which of a, b, c and d has to be a register. */
    private static final boolean[][] REGISTERS = {
        {true, false, false, false},
        {true, true, true, false},
        {true, true, true, false},
        {true, true, true, false},
        {true, false, false, false},
        {true, false, true, true},
        {true, true, false, false},
        {false, false, false, false},
        {true, false, false, false},
    };

    private static void appendRegisters() {
        for (int kind = 0; kind <= 8; kind++) {
            TieredMachine x = new TieredMachine();
            x.addClass(-1);
            x.addMethod();
            int place = 0;
            for (int operand = 0; operand < 4; operand++) {
                if (!REGISTERS[kind][operand]) {
                    continue;
                }
                for (int bad : new int[] {-1, 4, Integer.MIN_VALUE, Integer.MAX_VALUE}) {
                    refuseOperand(x, kind, operand, bad);
                }
                int[] o = new int[4];
                o[operand] = 3;
                Check.due("4 kind " + kind + " register 3", x.append(0, kind, o[0], o[1], o[2], o[3]), place++);
            }
        }
    }

    private static void refuseOperand(TieredMachine x, int kind, int operand, int bad) {
        int[] o = new int[4];
        o[operand] = bad;
        Check.refused("4 kind " + kind + " operand " + operand + " = " + bad, x, Check.ARGUMENT,
            () -> x.append(0, kind, o[0], o[1], o[2], o[3]));
    }

    private static void appendOtherOperands() {
        TieredMachine x = new TieredMachine();
        x.addClass(-1);
        x.addClass(0);
        x.addMethod();
        for (int kind : new int[] {-1, 9, Integer.MIN_VALUE, Integer.MAX_VALUE}) {
            Check.refused("4 kind " + kind, x, Check.ARGUMENT, () -> x.append(0, kind, 0, 0, 0, 0));
        }
        for (int bad : new int[] {-1, 2, Integer.MAX_VALUE, Integer.MIN_VALUE}) {
            refuseOperand(x, Check.NEW, 1, bad);
        }
        for (int bad : new int[] {-1, 6, Integer.MAX_VALUE, Integer.MIN_VALUE}) {
            refuseOperand(x, Check.SEND, 1, bad);
        }
        for (int bad : new int[] {-1, 21, Integer.MAX_VALUE, Integer.MIN_VALUE}) {
            refuseOperand(x, Check.LESS, 2, bad);
            refuseOperand(x, Check.JUMP, 0, bad);
        }
        int far = Integer.MIN_VALUE;
        Check.due("4 SET", x.append(0, Check.SET, 3, far, far, far), 0);
        Check.due("4 ADD", x.append(0, Check.ADD, 3, 3, 3, far), 1);
        Check.due("4 SUB", x.append(0, Check.SUB, 3, 3, 3, far), 2);
        Check.due("4 MUL", x.append(0, Check.MUL, 3, 3, 3, far), 3);
        Check.due("4 NEW", x.append(0, Check.NEW, 3, 1, far, far), 4);
        Check.due("4 SEND", x.append(0, Check.SEND, 3, 5, 3, 3), 5);
        Check.due("4 LESS", x.append(0, Check.LESS, 3, 3, 20, far), 6);
        Check.due("4 LESS to 0", x.append(0, Check.LESS, 3, 3, 0, far), 7);
        Check.due("4 JUMP", x.append(0, Check.JUMP, 20, far, far, far), 8);
        Check.due("4 RETURN", x.append(0, Check.RETURN, 3, far, far, far), 9);
    }

    private static void appendOrderOfExceptions() {
        TieredMachine x = new TieredMachine();
        Check.refused("4 no method", x, Check.INDEX, () -> x.append(0, 0, 0, 0, 0, 0));
        x.addMethod();
        Check.refused("4 no method, no kind", x, Check.INDEX, () -> x.append(1, 9, 0, 0, 0, 0));
        Check.refused("4 method -1, no kind", x, Check.INDEX, () -> x.append(-1, -1, 0, 0, 0, 0));
        for (int i = 0; i < 20; i++) {
            Check.due("4 place", x.append(0, Check.SET, 0, i, 0, 0), i);
        }
        Check.refused("4 full", x, Check.STATE, () -> x.append(0, Check.SET, 0, 0, 0, 0));
        Check.refused("4 full, and no kind", x, Check.ARGUMENT, () -> x.append(0, 9, 0, 0, 0, 0));
        Check.due("4 run of a full method", x.run(0, 0, 21), 0);
        Check.due("4 steps of a full method", x.steps(), 20);
    }

    private static void appendUnlearns() {
        TieredMachine x = sender();
        x.setPolicy(1, 2, 2);
        x.run(0, 0, 100);
        x.run(0, 1, 100);
        x.run(0, 2, 100);
        Check.due("4 before", Check.learned(x, 0) + " " + Check.records(x, 0), "1/1/1 10:3[012] ");
        x.run(0, 2, 100);
        Check.due("4 before", Check.learned(x, 0), "2/2/1");
        long others = x.heat(1);
        Check.due("4 append", x.append(0, Check.SET, 0, 0, 0, 0), 12);
        Check.due("4 after", Check.learned(x, 0) + " " + Check.records(x, 0), "0/0/0 10:0[] ");
        Check.due("4 the others keep theirs", x.heat(1), others);
        Check.due("4 totals stay", x.total(2), 1);
    }

    private static void implement() {
        TieredMachine x = new TieredMachine();
        x.addClass(-1);
        x.addClass(0);
        x.addMethod();
        x.addMethod();
        int[][] bad = {{2, 0, 0}, {-1, 0, 0}, {0, 6, 0}, {0, -1, 0}, {0, 0, 2}, {0, 0, -2},
            {Integer.MAX_VALUE, 0, 0}, {0, Integer.MIN_VALUE, 0}, {0, 0, Integer.MIN_VALUE}, {8, 0, -1}, {0, 6, -1}};
        for (int[] b : bad) {
            Check.refused("5 implement " + b[0] + " " + b[1] + " " + b[2], x, Check.INDEX,
                () -> x.implement(b[0], b[1], b[2]));
        }
        Check.due("5 implement", x.implement(0, 5, 1), 0);
        Check.due("5 in place of the one before", x.implement(0, 5, 0), 0);
        Check.due("5 understood", x.understands(1, 5), 0);
        Check.due("5 override", x.implement(1, 5, 1), 0);
        Check.due("5 understood", x.understands(1, 5), 1);
        Check.due("5 the parent's stays", x.understands(0, 5), 0);
        Check.due("5 taken away", x.implement(1, 5, -1), 0);
        Check.due("5 the parent's again", x.understands(1, 5), 0);
        Check.due("5 taken away", x.implement(0, 5, -1), 0);
        Check.due("5 none", x.understands(1, 5), -1);
    }

    private static void implementLetsFall() {
        TieredMachine x = sender();
        x.setPolicy(1, 2, 2);
        x.run(0, 1, 100);
        x.run(0, 1, 100);
        Check.due("5 trusts class 1", Check.learned(x, 0) + " " + Check.records(x, 0), "2/2/0 10:1[1] ");
        Check.due("5 another selector", x.implement(1, 1, 2), 0);
        Check.due("5 the same method again", x.implement(0, 0, 1), 0);
        Check.due("5 a class that was not met", x.implement(2, 0, 2), 0);
        Check.due("5 the class itself, by the same method as its parent's", x.implement(1, 0, 1), 0);
        Check.due("5 its parent, behind it", x.implement(0, 0, 2), 0);
        Check.due("5 still there", Check.learned(x, 0), "2/2/0");
        Check.due("5 another one for the class", x.implement(1, 0, 3), 1);
        Check.due("5 tier and heat 0, no disappointment, the record stays",
            Check.learned(x, 0) + " " + Check.records(x, 0), "0/0/0 10:1[1] ");
        Check.due("5 no disappointment in the totals", x.total(2), 0);
        x.run(0, 1, 100);
        Check.due("5 at tier 1 nothing falls", x.implement(1, 0, 1), 0);
        Check.due("5 at tier 1", Check.learned(x, 0), "1/1/0");
        x.run(0, 1, 100);
        Check.due("5 at tier 2 by its parent too", x.implement(1, 0, -1), 1);
        x.run(0, 1, 100);
        x.run(0, 1, 100);
        Check.due("5 at tier 2", x.tier(0), 2);
        Check.due("5 a change at the parent", x.implement(0, 0, 3), 1);
        Check.due("5 fallen", Check.learned(x, 0), "0/0/0");
    }

    /** The outer one notes a class for place 6 after its method was compiled to tier 2. */
    private static void implementLooksAtWhatIsTrusted() {
        TieredMachine x = recursive();
        x.setPolicy(1, 2, 5);
        x.run(0, 1, 100);
        Check.due("5 the records", Check.learned(x, 0) + " " + Check.records(x, 0), "2/2/0 4:1[0] 6:1[1] ");
        Check.due("5 noted, but not trusted", x.implement(1, 1, 2), 0);
        Check.due("5 trusted", x.implement(0, 0, 2), 1);

        TieredMachine y = recursive();
        y.setPolicy(1, 2, 5);
        y.run(0, 1, 100);
        y.run(0, 1, 100);
        Check.due("5 disappointed", Check.learned(y, 0), "0/0/1");
        y.run(0, 1, 100);
        Check.due("5 again at tier 2", Check.learned(y, 0), "2/2/1");
        Check.due("5 now it is trusted", y.implement(1, 1, 2), 1);
        Check.due("5 the disappointments stay", Check.learned(y, 0), "0/0/1");
    }

    private static void implementAndCrowdedRecords() {
        TieredMachine x = sender();
        x.setPolicy(1, 1000, 2);
        for (int i = 0; i < 4; i++) {
            x.run(0, i, 100);
        }
        Check.due("5 crowded", Check.records(x, 0), "10:4[012] ");
        x.setPolicy(1, 1, 2);
        x.run(0, 0, 100);
        Check.due("5 crowded, tier 2", x.tier(0), 2);
        Check.due("5 a crowded record is not looked at", x.implement(0, 0, 3), 0);
        Check.due("5 the tier stays", x.tier(0), 2);
    }

    private static void implementFromAndToNothing() {
        TieredMachine x = sender();
        x.setPolicy(1, 2, 5);
        x.run(0, 0, 100);
        x.run(0, 0, 100);
        Check.due("5 tier 2", x.tier(0), 2);
        Check.due("5 from a method to none", x.implement(0, 0, -1), 1);
        x.run(0, 0, 100);
        Check.due("5 not understood", x.error(), 2);
        x.run(0, 0, 100);
        Check.due("5 tier 2", x.tier(0), 2);
        Check.due("5 from none to none", x.implement(0, 0, -1), 0);
        Check.due("5 from none to a method", x.implement(0, 0, 1), 1);
        Check.due("5 tier 0", x.tier(0), 0);
    }

    private static void understands() {
        TieredMachine x = new TieredMachine();
        x.addClass(-1);
        x.addClass(0);
        x.addClass(0);
        x.addClass(2);
        x.addClass(-1);
        x.addMethod();
        x.addMethod();
        x.implement(0, 0, 0);
        x.implement(2, 0, 1);
        Check.due("6 own", x.understands(0, 0), 0);
        Check.due("6 the parent's", x.understands(1, 0), 0);
        Check.due("6 in place of the parent's", x.understands(2, 0), 1);
        Check.due("6 the nearest", x.understands(3, 0), 1);
        Check.due("6 another family", x.understands(4, 0), -1);
        Check.due("6 another selector", x.understands(3, 5), -1);
        int[][] bad = {{-1, 0}, {5, 0}, {0, -1}, {0, 6}, {8, 0}, {Integer.MAX_VALUE, 0}, {0, Integer.MIN_VALUE}};
        for (int[] b : bad) {
            Check.refused("6 understands " + b[0] + " " + b[1], x, Check.INDEX, () -> x.understands(b[0], b[1]));
        }
    }

    private static void setPolicy() {
        TieredMachine x = new TieredMachine();
        int[][] bad = {{0, 20, 2}, {1001, 20, 2}, {5, 0, 2}, {5, 1001, 2}, {5, 20, -1}, {5, 20, 6},
            {Integer.MIN_VALUE, 20, 2}, {5, Integer.MAX_VALUE, 2}, {5, 20, Integer.MAX_VALUE}};
        for (int[] b : bad) {
            Check.refused("7 setPolicy " + b[0] + " " + b[1] + " " + b[2], x, Check.ARGUMENT,
                () -> x.setPolicy(b[0], b[1], b[2]));
            Check.due("7 refused, so as before", x.setPolicy(5, 20, 2), false);
        }
        Check.due("7 first", x.setPolicy(1, 20, 2), true);
        Check.due("7 second", x.setPolicy(1, 1, 2), true);
        Check.due("7 budget", x.setPolicy(1, 1, 0), true);
        Check.due("7 none", x.setPolicy(1, 1, 0), false);
        Check.due("7 greatest", x.setPolicy(1000, 1000, 5), true);
        Check.due("7 none", x.setPolicy(1000, 1000, 5), false);
    }

    private static void policyCountsWhenWarmed() {
        TieredMachine x = new TieredMachine();
        x.addMethod();
        for (int i = 0; i < 4; i++) {
            x.run(0, 0, 1);
        }
        Check.due("7 below the first threshold", Check.learned(x, 0), "0/4/0");
        x.setPolicy(2, 3, 0);
        Check.due("7 not before it is warmed", Check.learned(x, 0), "0/4/0");
        x.run(0, 0, 1);
        Check.due("7 no budget, no tier 2", Check.learned(x, 0), "1/5/0");
        x.setPolicy(1000, 7, 1);
        x.run(0, 0, 1);
        Check.due("7 below the second threshold", Check.learned(x, 0), "1/6/0");
        x.run(0, 0, 1);
        Check.due("7 at the second threshold", Check.learned(x, 0), "2/7/0");
        x.setPolicy(1000, 1000, 0);
        x.run(0, 0, 1);
        Check.due("7 a tier is kept", Check.learned(x, 0), "2/8/0");
    }

    private static void forget() {
        TieredMachine x = sender();
        x.setPolicy(1, 2, 2);
        x.run(0, 0, 100);
        x.run(0, 1, 100);
        Check.due("8 disappointed", Check.learned(x, 0), "0/0/1");
        x.run(0, 3, 100);
        Check.due("8 at tier 1", Check.learned(x, 0) + " " + Check.learned(x, 1), "1/1/1 2/3/0");
        String outcome = Check.outcome(x);
        String totals = Check.totals(x);
        Check.due("8 forget", x.forget(), 2);
        for (int i = 0; i < 4; i++) {
            Check.due("8 forgotten", Check.learned(x, i), "0/0/0");
        }
        Check.due("8 forgotten records", Check.records(x, 0), "10:0[] ");
        Check.due("8 the outcome stays", Check.outcome(x), outcome);
        Check.due("8 the totals stay", Check.totals(x), totals);
        Check.due("8 the policy stays", x.setPolicy(1, 2, 2), false);
        Check.due("8 the program stays", x.understands(3, 0), 1);
        Check.due("8 forget again", x.forget(), 0);
        x.setPolicy(1000, 1000, 0);
        for (int i = 0; i < 4; i++) {
            x.run(0, i, 100);
        }
        Check.due("8 crowded", x.met(0, 10), 4);
        Check.due("8 no tiers", x.forget(), 0);
        Check.due("8 not crowded any more", Check.records(x, 0), "10:0[] ");
        x.run(0, 3, 100);
        Check.due("8 it learns again", Check.records(x, 0), "10:1[3] ");
    }
}
