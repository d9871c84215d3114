/** The boundary cases that promises 1 to 8 name: a test for each sentence, in the document's order. */
final class ProgramEdgesTest extends Programs {
    private static final int MIN = Integer.MIN_VALUE;
    private static final int MAX = Integer.MAX_VALUE;

    public static void main(String[] args) {
        newObject();
        addClassParent();
        addClassNoSuchParent();
        addClassFull();
        addMethodEmpty();
        addMethodFull();
        appendUnlearns();
        appendUnlearnsTheFirstPlace();
        appendPlace();
        appendNoSuchMethod();
        appendKind();
        appendOperands();
        appendFull();
        implementInPlace();
        implementLetsFall();
        implementAtTheFirstAndTheLastPlace();
        implementLooksAtTheTrustedRecord();
        implementLooksAtEachSend();
        implementLetsNothingFall();
        implementTakesAway();
        implementCounts();
        implementNoSuch();
        understandsNone();
        understandsNoSuch();
        setPolicyAnother();
        setPolicyOutside();
        forgetAll();
        forgetTheFirstAndTheLastPlace();
        forgetCounts();
        Check.end();
    }

    private static void newObject() {
        Check.sentence("1: Creates a manager without classes and methods.");
        TieredMachine x = new TieredMachine();
        Check.due("nothing was executed", Check.outcome(x), "result 0 class -1 error 0 cost 0 steps 0 depth 0");
        Check.due("nothing was counted", Check.totals(x), "0,0,0,0");
        Check.due("the digest of five zeros", x.digest(), 97L * 31 * 31 * 31 * 31 * 31);
        for (int number : new int[] {0, 1, -1, MIN, MAX}) {
            Check.refused("a method", x, Check.INDEX, () -> x.run(number, 0, 10));
            Check.refused("a method", x, Check.INDEX, () -> x.append(number, Check.JUMP, 0, 0, 0, 0));
            Check.refused("a class", x, Check.INDEX, () -> x.understands(number, 0));
            Check.refused("a class", x, Check.INDEX, () -> x.implement(number, 0, -1));
        }
        Check.due("nothing to forget", x.forget(), 0);
        x.addMethod();
        Check.refused("an object of a class", x, Check.ARGUMENT, () -> x.append(0, Check.NEW, 0, 0, 0, 0));
        Check.due("two objects share nothing", new TieredMachine().addMethod(), 0);
    }

    private static void addClassParent() {
        Check.sentence("2: Adds a class. parent: its parent; -1 for none. Returns the number of the class.");
        for (int parent = -1; parent < 7; parent++) {
            TieredMachine x = new TieredMachine();
            for (int i = 0; i < 7; i++) {
                x.addClass(-1);
            }
            x.addMethod();
            Check.due("the number", x.addClass(parent), 7);
            for (int type = 0; type < 7; type++) {
                x.implement(type, type % 6, 0);
                Check.due("class " + type + " is the parent, or not", x.understands(7, type % 6),
                    type == parent ? 0 : -1);
                x.implement(type, type % 6, -1);
            }
        }
    }

    private static void addClassNoSuchParent() {
        Check.sentence("2: Throws IndexOutOfBoundsException if parent is not -1, and there is no such class");
        TieredMachine x = new TieredMachine();
        for (int count = 0; count <= 8; count++) {
            for (int bad : Check.outside(-1, count - 1)) {
                Check.refused(bad + " with " + count + " classes", x, Check.INDEX, () -> x.addClass(bad));
            }
            if (count < 8) {
                Check.due("the newest one can be a parent", x.addClass(count - 1), count);
            }
        }
    }

    private static void addClassFull() {
        Check.sentence("2: Throws IllegalStateException if there are 8 classes");
        TieredMachine x = chain(7);
        Check.due("with 7 there is room", x.addClass(-1), 7);
        for (int parent = -1; parent < 8; parent++) {
            int any = parent;
            Check.refused("with 8 there is none", x, Check.STATE, () -> x.addClass(any));
        }
    }

    private static void addMethodEmpty() {
        Check.sentence("3: Adds a method without instructions. Returns its number.");
        TieredMachine x = new TieredMachine();
        for (int number = 0; number < 12; number++) {
            int same = number;
            Check.due("the number", x.addMethod(), number);
            Check.due("it ends at once", x.run(number, 5, 1), 0);
            Check.due("no instruction", Check.outcome(x), "result 0 class -1 error 0 cost 0 steps 0 depth 1");
            Check.refused("no SEND", x, Check.INDEX, () -> x.met(same, 0));
            Check.due("the first place", x.append(number, Check.RETURN, 0, 0, 0, 0), 0);
        }
    }

    private static void addMethodFull() {
        Check.sentence("3: Throws IllegalStateException if there are 12 methods");
        TieredMachine x = new TieredMachine();
        for (int i = 0; i < 11; i++) {
            x.addMethod();
        }
        Check.due("with 11 there is room", x.addMethod(), 11);
        Check.refused("with 12 there is none", x, Check.STATE, () -> x.addMethod());
        Check.refused("nor later", x, Check.STATE, () -> x.addMethod());
    }

    private static String learned(TieredMachine x) {
        return Check.learned(x, 0) + " " + Check.records(x, 0);
    }

    private static void appendUnlearns() {
        Check.sentence("4: Appends an instruction to a method. The tier, the heat and the disappointments of the "
            + "method become 0, and its records empty.");
        TieredMachine x = doubleSender();
        x.setPolicy(1, 1, 5);
        for (int argument : new int[] {0, 1, 2, 3, 0, 4, 4}) {
            x.run(0, argument, 100);
        }
        Check.due("a record of one, and a crowded one", learned(x), "1/1/5 12:1[3] 13:4[012] ");
        String called = Check.learned(x, 1);
        String told = Check.totals(x) + Check.outcome(x);
        Check.due("append", x.append(0, Check.SET, 0, 0, 0, 0), 15);
        Check.due("the totals and the latest execution stay", Check.totals(x) + Check.outcome(x), told);
        Check.due("the settings stay", x.setPolicy(1, 1, 5), false);
        Check.due("all of it is gone", learned(x), "0/0/0 12:0[] 13:0[] ");
        Check.due("of this method alone", Check.learned(x, 1), called);
        Check.due("of a method that has learned nothing", x.append(0, Check.SET, 0, 0, 0, 0), 16);
        Check.due("it stays so", learned(x), "0/0/0 12:0[] 13:0[] ");
        x.append(0, Check.SEND, 0, 0, 0, 0);
        Check.due("a new SEND has an empty record", learned(x), "0/0/0 12:0[] 13:0[] 17:0[] ");
        x.run(0, 3, 100);
        Check.due("the records can be filled again", learned(x), "0/0/1 12:0[] 13:1[3] 17:0[] ");
    }

    private static void appendUnlearnsTheFirstPlace() {
        TieredMachine x = chain(1);
        int sends = method(x, send(0, 1, 1, 0));
        x.implement(0, 0, sends);
        x.implement(0, 1, x.addMethod());
        x.run(method(x, make(1, 0), send(0, 0, 1, 0)), 0, 100);
        Check.due("the first place has met class 0", learned(x), "0/1/0 0:1[0] ");
        x.append(sends, Check.SEND, 0, 1, 1, 0);
        Check.due("it is empty", learned(x), "0/0/0 0:0[] 1:0[] ");
    }

    private static void appendPlace() {
        Check.sentence("4: Returns the place of the instruction.");
        TieredMachine x = single();
        x.addMethod();
        for (int place = 0; place < 20; place++) {
            Check.due("method 0", x.append(0, place % 9, 0, 0, 0, 0), place);
            Check.due("method 1", x.append(1, Check.JUMP, 20, 0, 0, 0), place);
        }
    }

    private static void appendNoSuchMethod() {
        Check.sentence("4: Throws IndexOutOfBoundsException if there is no such method");
        TieredMachine x = new TieredMachine();
        for (int count = 0; count <= 12; count++) {
            for (int bad : Check.outside(0, count - 1)) {
                Check.refused(bad + " of " + count, x, Check.INDEX, () -> x.append(bad, Check.SET, 0, 0, 0, 0));
            }
            if (count < 12) {
                x.addMethod();
                Check.due("the newest one", x.append(count, Check.SET, 0, 0, 0, 0), 0);
            }
        }
    }

    private static void appendKind() {
        Check.sentence("4: Throws IllegalArgumentException if kind is not 0 to 8");
        TieredMachine x = single();
        for (int kind = 0; kind <= 8; kind++) {
            Check.due("kind " + kind, x.append(0, kind, 0, 0, 0, 0), kind);
        }
        for (int bad : Check.outside(0, 8)) {
            Check.refused("kind " + bad, x, Check.ARGUMENT, () -> x.append(0, bad, 0, 0, 0, 0));
        }
    }

    /** For each kind, what a, b, c and d have to be: a register, a selector, a class, a place, or anything. */
    private static final String[] OPERANDS = {"r...", "rrr.", "rrr.", "rrr.", "rc..", "rsrr", "rrp.", "p...", "r..."};

    private static void appendOperands() {
        Check.sentence("4: or an operand that has to be a register is not 0 to 3, one that has to be a selector is "
            + "not 0 to 5, one that has to be a class is none that exists, or one that has to be a place is not 0 to "
            + "20");
        for (int kind = 0; kind <= 8; kind++) {
            for (int operand = 0; operand < 4; operand++) {
                switch (OPERANDS[kind].charAt(operand)) {
                    case 'r' -> range(kind, operand, 3);
                    case 's' -> range(kind, operand, 5);
                    case 'c' -> range(kind, operand, 2);
                    case 'p' -> range(kind, operand, 20);
                    default -> anything(kind, operand);
                }
            }
        }
        TieredMachine x = new TieredMachine();
        x.addMethod();
        for (int count = 0; count <= 8; count++) {
            for (int bad : Check.outside(0, count - 1)) {
                refuseOperand(x, Check.NEW, 1, bad);
            }
            if (count < 8) {
                x.addClass(-1);
                Check.due("the newest class", x.append(0, Check.NEW, 0, count, 0, 0), count);
            }
        }
    }

    /** A machine with three classes; the other operands are 0. */
    private static void range(int kind, int operand, int greatest) {
        TieredMachine x = chain(3);
        x.addMethod();
        for (int bad : Check.outside(0, greatest)) {
            refuseOperand(x, kind, operand, bad);
        }
        Check.due("the smallest", append(x, kind, operand, 0), 0);
        Check.due("the greatest", append(x, kind, operand, greatest), 1);
    }

    private static void anything(int kind, int operand) {
        TieredMachine x = chain(3);
        x.addMethod();
        Check.due("anything", append(x, kind, operand, MIN), 0);
        Check.due("anything", append(x, kind, operand, MAX), 1);
    }

    private static int append(TieredMachine x, int kind, int operand, int value) {
        int[] o = new int[4];
        o[operand] = value;
        return x.append(0, kind, o[0], o[1], o[2], o[3]);
    }

    private static void refuseOperand(TieredMachine x, int kind, int operand, int bad) {
        Check.refused("kind " + kind + ", operand " + operand + " = " + bad, x, Check.ARGUMENT,
            () -> append(x, kind, operand, bad));
    }

    private static void appendFull() {
        Check.sentence("4: Throws IllegalStateException if the method has 20 instructions");
        TieredMachine x = single(times(19, set(0, 1)));
        Check.due("with 19 there is room", x.append(0, Check.RETURN, 0, 0, 0, 0), 19);
        for (int kind = 0; kind <= 8; kind++) {
            int any = kind;
            Check.refused("with 20 there is none, kind " + kind, x, Check.STATE, () -> x.append(0, any, 0, 0, 0, 0));
        }
        x.addMethod();
        Check.due("another method has room", x.append(1, Check.SET, 0, 0, 0, 0), 0);
    }

    private static void implementInPlace() {
        Check.sentence("5: Lets a class implement a selector by a method, in place of the one before, if there was "
            + "one.");
        TieredMachine x = chain(8);
        for (int i = 0; i < 12; i++) {
            x.addMethod();
        }
        for (int selector = 0; selector < 6; selector++) {
            x.implement(7, selector, 0);
            Check.due("where none was", x.understands(7, selector), 0);
            x.implement(7, selector, 11);
            Check.due("in place of another one", x.understands(7, selector), 11);
            x.implement(7, selector, 11);
            Check.due("in place of itself", x.understands(7, selector), 11);
            Check.due("its parent has nothing of it", x.understands(6, selector), -1);
        }
    }

    /** Method 0 of sender() in tier 2, trusting the class 1 alone; class 0 is its parent, and implements. */
    private static TieredMachine trustsClassOne() {
        TieredMachine x = sender();
        x.setPolicy(1, 2, 5);
        x.run(0, 1, 100);
        x.run(0, 1, 100);
        Check.due("at tier 2", learned(x), "2/2/0 10:1[1] ");
        return x;
    }

    private static void implementLetsFall() {
        Check.sentence("5: Each method with the tier 2 that has a SEND with this selector whose trusted record is not "
            + "crowded, and has a class that understands another method for the selector than before, gets the tier 0 "
            + "and the heat 0; that is no disappointment.");
        int[][] falls = {{1, 0, 2}, {1, 0, 0}, {0, 0, 2}, {0, 0, -1}};
        for (int[] f : falls) {
            TieredMachine x = trustsClassOne();
            String told = Check.totals(x) + Check.outcome(x);
            Check.due("it falls", x.implement(f[0], f[1], f[2]), 1);
            Check.due("tier and heat 0, the rest stays", learned(x), "0/0/0 10:1[1] ");
            Check.due("the totals and the latest execution stay", Check.totals(x) + Check.outcome(x), told);
        }
        TieredMachine y = trustsClassOne();
        y.implement(0, 0, -1);
        y.run(0, 1, 100);
        y.run(0, 1, 100);
        Check.due("in tier 2, with a class that understands nothing", learned(y) + y.error(), "2/2/0 10:1[1] 2");
        Check.due("now it understands something", y.implement(0, 0, 1), 1);
    }

    /** Class 0 is the only one that is trusted. */
    private static void implementAtTheFirstAndTheLastPlace() {
        for (int[] change : new int[][] {{0, 1, 2}, {0, 1, 0}, {0, 1, -1}}) {
            TieredMachine x = firstAndLastPlace();
            x.setPolicy(1, 2, 5);
            x.run(2, 0, 100);
            x.run(2, 0, 100);
            Check.due("at tier 2", learned(x), "2/2/0 0:1[0] 19:1[0] ");
            Check.due("the same method again", x.implement(0, 1, 1), 0);
            Check.due("a child that is not trusted", x.implement(1, 1, 3), 0);
            Check.due("it falls", x.implement(change[0], change[1], change[2]), 1);
            Check.due("it falls", learned(x), "0/0/0 0:1[0] 19:1[0] ");
        }
        for (int place : new int[] {0, 19}) {
            TieredMachine x = chain(1);
            int[][] code = times(20, set(2, 0));
            code[place] = send(3, 1, 1, 0);
            x.implement(0, 0, method(x, code));
            x.implement(0, 1, x.addMethod());
            int caller = method(x, make(1, 0), send(0, 0, 1, 0));
            x.setPolicy(1, 2, 5);
            x.run(caller, 0, 100);
            x.run(caller, 0, 100);
            Check.due("a SEND at place " + place + " alone", learned(x), "2/2/0 " + place + ":1[0] ");
            Check.due("it falls", x.implement(0, 1, -1), 1);
        }
    }

    private static void implementLooksAtTheTrustedRecord() {
        String before = "2/5/0 4:1[0] 5:4[012] ";
        for (int type = 0; type < 3; type++) {
            TieredMachine x = crowdedLater();
            Check.due("the trusted record is not crowded, the present one is", learned(x), before);
            Check.due("index " + type + " of it", x.implement(type, 1, 3), 1);
            Check.due("index " + type + " of it", learned(x), "0/0/0 4:1[0] 5:4[012] ");
        }
        TieredMachine crowding = crowdedLater();
        Check.due("the class that has crowded the present one", crowding.implement(3, 1, 3), 0);
        Check.due("the class that has crowded the present one", learned(crowding), before);
        TieredMachine y = recursive();
        y.setPolicy(1, 2, 5);
        y.run(0, 1, 100);
        Check.due("class 1 was met after the compilation", learned(y), "2/2/0 4:1[0] 6:1[1] ");
        Check.due("so it is not trusted", y.implement(1, 1, 2), 0);
        Check.due("class 0 was met before it", y.implement(0, 0, 2), 1);
    }

    /** Places 12 and 13 of doubleSender() both send selector 0. */
    private static void implementLooksAtEachSend() {
        TieredMachine x = doubleSender();
        x.run(0, 1, 100);
        x.setPolicy(1, 1, 5);
        x.run(0, 0, 0);
        Check.due("the first SEND trusts no class", learned(x), "2/2/0 12:0[] 13:1[1] ");
        Check.due("the second one does", x.implement(1, 0, 0), 1);
        TieredMachine y = doubleSender();
        y.setPolicy(1000, 1000, 0);
        for (int argument = 0; argument < 5; argument++) {
            y.run(0, argument, 100);
        }
        y.setPolicy(1, 1, 5);
        y.run(0, 0, 0);
        Check.due("the second SEND is crowded", learned(y), "2/6/0 12:1[3] 13:4[012] ");
        Check.due("a class of the crowded one", y.implement(2, 0, 0), 0);
        Check.due("the class of the other one", y.implement(3, 0, 0), 1);
    }

    private static void implementLetsNothingFall() {
        int[][] stays = {{1, 0, 1}, {1, 0, -1}, {1, 1, 2}, {0, 5, 2}, {2, 0, 2}, {3, 0, 3}, {0, 0, 1}};
        for (int[] s : stays) {
            TieredMachine x = trustsClassOne();
            Check.due("it stays", x.implement(s[0], s[1], s[2]), 0);
            Check.due("it stays", learned(x), "2/2/0 10:1[1] ");
        }
        TieredMachine own = trustsClassOne();
        own.implement(1, 0, 1);
        Check.due("the class has its own one, so its parent's does not count", own.implement(0, 0, 2), 0);
        TieredMachine lower = trustsClassOne();
        lower.forget();
        lower.run(0, 1, 100);
        Check.due("a method with the tier 1", lower.tier(0) + "," + lower.implement(1, 0, 2), "1,0");
        Check.due("keeps its tier and heat", learned(lower), "1/1/0 10:1[1] ");
        lower.forget();
        Check.due("a method with the tier 0", lower.implement(1, 0, 1), 0);
        TieredMachine empty = sender();
        empty.setPolicy(1, 1, 5);
        empty.run(0, 0, 0);
        Check.due("an empty record", learned(empty) + empty.implement(0, 0, 2), "2/1/0 10:0[] 0");
        TieredMachine crowded = sender();
        for (int argument = 0; argument < 4; argument++) {
            crowded.run(0, argument, 100);
        }
        crowded.setPolicy(1, 1, 5);
        crowded.run(0, 0, 0);
        Check.due("a crowded record", learned(crowded) + crowded.implement(0, 0, 2), "2/5/0 10:4[012] 0");
    }

    private static void implementTakesAway() {
        Check.sentence("5: method: the method; -1 if the class does not implement the selector any more");
        TieredMachine x = chain(2);
        x.addMethod();
        x.addMethod();
        Check.due("nothing to take away", x.implement(1, 0, -1), 0);
        Check.due("nothing to take away", x.understands(1, 0), -1);
        x.implement(0, 0, 0);
        x.implement(1, 0, 1);
        x.implement(1, 0, -1);
        Check.due("the parent's one is understood again", x.understands(1, 0), 0);
        x.implement(0, 0, -1);
        Check.due("none is understood again", x.understands(0, 0) + "," + x.understands(1, 0), "-1,-1");
    }

    private static void implementCounts() {
        Check.sentence("5: Returns how many methods have got the tier 0.");
        for (int count = 0; count <= 11; count++) {
            TieredMachine x = chain(1);
            x.implement(0, 0, x.addMethod());
            x.setPolicy(1, 2, 5);
            for (int i = 0; i < count; i++) {
                int sender = method(x, make(1, 0), send(0, 0, 1, 0), send(0, 0, 1, 0));
                x.run(sender, 0, 100);
                x.run(sender, 0, 100);
                Check.due("at tier 2", x.tier(sender), 2);
            }
            Check.due(count + " methods, each once", x.implement(0, 0, -1), count);
            Check.due("no method is left to fall", x.implement(0, 0, 0), 0);
        }
    }

    private static void implementNoSuch() {
        Check.sentence("5: Throws IndexOutOfBoundsException if there is no such class, selector or method");
        TieredMachine x = chain(3);
        x.addMethod();
        x.addMethod();
        for (int bad : Check.outside(0, 2)) {
            Check.refused("class " + bad, x, Check.INDEX, () -> x.implement(bad, 0, 0));
            Check.refused("class " + bad + ", -1", x, Check.INDEX, () -> x.implement(bad, 0, -1));
        }
        for (int bad : Check.outside(0, 5)) {
            Check.refused("selector " + bad, x, Check.INDEX, () -> x.implement(0, bad, 0));
            Check.refused("selector " + bad + ", -1", x, Check.INDEX, () -> x.implement(0, bad, -1));
        }
        for (int bad : Check.outside(-1, 1)) {
            Check.refused("method " + bad, x, Check.INDEX, () -> x.implement(0, 0, bad));
        }
        Check.due("the greatest of each", x.implement(2, 5, 1), 0);
        Check.due("the smallest of each", x.implement(0, 0, -1), 0);
    }

    private static void understandsNone() {
        Check.sentence("6: Returns the method that the class understands for the selector; -1 if there is none.");
        TieredMachine x = chain(8);
        x.addMethod();
        Check.due("none", x.understands(7, 5), -1);
        x.implement(7, 5, 0);
        Check.due("its own", x.understands(7, 5), 0);
        Check.due("none for the selector before", x.understands(7, 4), -1);
        Check.due("none for its parent", x.understands(6, 5), -1);
        x.implement(7, 5, -1);
        x.implement(0, 5, 0);
        Check.due("that of the class seven above it", x.understands(7, 5), 0);
    }

    private static void understandsNoSuch() {
        Check.sentence("6: Throws IndexOutOfBoundsException if there is no such class or selector");
        TieredMachine x = new TieredMachine();
        x.addMethod();
        for (int count = 0; count <= 8; count++) {
            for (int bad : Check.outside(0, count - 1)) {
                Check.refused("class " + bad, x, Check.INDEX, () -> x.understands(bad, 0));
            }
            if (count < 8) {
                x.addClass(-1);
                Check.due("the newest class", x.understands(count, 0), -1);
            }
        }
        for (int bad : Check.outside(0, 5)) {
            Check.refused("selector " + bad, x, Check.INDEX, () -> x.understands(0, bad));
        }
    }

    private static void setPolicyAnother() {
        Check.sentence("7: Sets the thresholds and the budget. Returns whether one of them is another one than "
            + "before.");
        TieredMachine x = new TieredMachine();
        Check.due("as at first", x.setPolicy(5, 20, 2), false);
        int[][] changes = {{4, 20, 2}, {4, 21, 2}, {4, 21, 3}, {1, 1, 0}, {1000, 1000, 5}, {5, 20, 2}};
        for (int[] c : changes) {
            Check.due("another one", x.setPolicy(c[0], c[1], c[2]), true);
            Check.due("none", x.setPolicy(c[0], c[1], c[2]), false);
        }
        Check.due("the two thresholds in each other's place", x.setPolicy(20, 5, 2), true);
        TieredMachine y = trustsClassOne();
        y.setPolicy(1000, 1000, 0);
        Check.due("no tier is taken away", learned(y), "2/2/0 10:1[1] ");
    }

    private static void setPolicyOutside() {
        Check.sentence("7: Throws IllegalArgumentException if a threshold is not 1 to 1000, or budget is not 0 to 5");
        TieredMachine x = new TieredMachine();
        for (int bad : Check.outside(1, 1000)) {
            Check.refused("first " + bad, x, Check.ARGUMENT, () -> x.setPolicy(bad, 7, 3));
            Check.due("the settings stay", x.setPolicy(5, 20, 2), false);
            Check.refused("second " + bad, x, Check.ARGUMENT, () -> x.setPolicy(7, bad, 3));
            Check.due("the settings stay", x.setPolicy(5, 20, 2), false);
        }
        for (int bad : Check.outside(0, 5)) {
            Check.refused("budget " + bad, x, Check.ARGUMENT, () -> x.setPolicy(7, 7, bad));
            Check.due("the settings stay", x.setPolicy(5, 20, 2), false);
        }
        Check.due("the smallest", x.setPolicy(1, 1, 0), true);
        Check.due("the greatest", x.setPolicy(1000, 1000, 5), true);
    }

    private static void forgetAll() {
        Check.sentence("8: Forgets what was learned: all tiers, heats and disappointments become 0, and all records "
            + "empty.");
        TieredMachine x = doubleSender();
        x.setPolicy(1, 1, 5);
        for (int argument : new int[] {0, 1, 2, 3, 4}) {
            x.run(0, argument, 100);
        }
        Check.due("much was learned", learned(x) + Check.learned(x, 1), "0/0/5 12:1[3] 13:4[012] 2/6/0");
        String told = Check.totals(x) + Check.outcome(x);
        x.forget();
        Check.due("nothing of it is left", learned(x) + Check.learned(x, 1), "0/0/0 12:0[] 13:0[] 0/0/0");
        Check.due("the totals and the latest execution stay", Check.totals(x) + Check.outcome(x), told);
        Check.due("the settings stay", x.setPolicy(1, 1, 5), false);
        Check.due("the classes stay", x.understands(3, 0), 1);
        x.run(0, 3, 100);
        Check.due("it learns again, from an empty record", learned(x), "0/0/1 12:0[] 13:1[3] ");
        x.forget();
        x.forget();
        Check.due("nothing to forget", learned(x), "0/0/0 12:0[] 13:0[] ");
    }

    private static void forgetTheFirstAndTheLastPlace() {
        TieredMachine x = firstAndLastPlace();
        x.run(3, 0, 100);
        x.run(2, 0, 100);
        Check.due("both places", learned(x), "0/2/0 0:2[10] 19:2[10] ");
        x.forget();
        Check.due("both places", learned(x), "0/0/0 0:0[] 19:0[] ");
    }

    private static void forgetCounts() {
        Check.sentence("8: Returns how many methods had a tier greater than 0.");
        TieredMachine x = new TieredMachine();
        Check.due("no methods", x.forget(), 0);
        for (int count = 1; count <= 12; count++) {
            x.addMethod();
            for (int tier = 0; tier <= 2; tier++) {
                x.setPolicy(tier == 0 ? 1000 : 1, tier == 2 ? 1 : 1000, 1);
                for (int method = 0; method < count; method++) {
                    x.run(method, 0, 0);
                    Check.due("its tier", x.tier(method), tier);
                }
                Check.due(count + " methods with the tier " + tier, x.forget(), tier == 0 ? 0 : count);
                Check.due("none any more", x.forget(), 0);
            }
        }
    }
}
