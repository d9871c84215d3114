/** Promises 17 to 22. */
final class MethodsTest extends Programs {

    public static void main(String[] args) {
        noSuchMethod();
        tierHeatDisappointments();
        met();
        metClass();
        digestOfProgram();
        digestOfExecution();
        Check.end();
    }

    private static void noSuchMethod() {
        TieredMachine x = sender();
        for (int bad : new int[] {-1, 4, 12, Integer.MIN_VALUE, Integer.MAX_VALUE}) {
            Check.refused("17 tier(" + bad + ")", x, Check.INDEX, () -> x.tier(bad));
            Check.refused("18 heat(" + bad + ")", x, Check.INDEX, () -> x.heat(bad));
            Check.refused("19 disappointments(" + bad + ")", x, Check.INDEX, () -> x.disappointments(bad));
            Check.refused("20 met(" + bad + ", 10)", x, Check.INDEX, () -> x.met(bad, 10));
            Check.refused("21 metClass(" + bad + ", 10, 0)", x, Check.INDEX, () -> x.metClass(bad, 10, 0));
        }
    }

    private static void tierHeatDisappointments() {
        TieredMachine x = sender();
        x.setPolicy(2, 3, 3);
        String[] want = {"0/1/0", "1/2/0", "2/3/0", "2/4/0", "0/0/1", "0/1/1", "1/2/1", "2/3/1", "0/0/2"};
        int[] argument = {0, 0, 0, 0, 1, 1, 1, 1, 2};
        for (int i = 0; i < want.length; i++) {
            x.run(0, argument[i], 100);
            Check.due("17 to 19 after run " + i, x.tier(0) + "/" + x.heat(0) + "/" + x.disappointments(0), want[i]);
        }
        Check.due("17 the called one", x.tier(1), 2);
        Check.due("18 the called one", x.heat(1), 9);
        Check.due("19 the called one", x.disappointments(1), 0);
        Check.due("18 one that did not run", x.heat(2), 0);
    }

    private static void met() {
        TieredMachine x = sender();
        Check.due("20 at first", x.met(0, 10), 0);
        for (int bad : new int[] {-1, 0, 9, 11, 12, 20, Integer.MIN_VALUE, Integer.MAX_VALUE}) {
            Check.refused("20 met(0, " + bad + ")", x, Check.INDEX, () -> x.met(0, bad));
            Check.refused("21 metClass(0, " + bad + ", 0)", x, Check.INDEX, () -> x.metClass(0, bad, 0));
        }
        int[] argument = {1, 1, 0, 1, 3, 0, 2, 2, 1};
        int[] want = {1, 1, 2, 2, 3, 3, 4, 4, 4};
        for (int i = 0; i < want.length; i++) {
            x.run(0, argument[i], 100);
            Check.due("20 after run " + i, x.met(0, 10), want[i]);
        }
        TieredMachine y = recursive();
        y.run(0, 3, 100);
        Check.due("20 each SEND has its own", y.metClass(0, 4, 0) + "," + y.metClass(0, 6, 0), "0,1");
    }

    private static void metClass() {
        TieredMachine x = sender();
        refusedIndex(x, 0);
        int[] argument = {3, 1, 2, 0};
        for (int i = 0; i < argument.length; i++) {
            x.run(0, argument[i], 100);
            int known = Math.min(i + 1, 3);
            for (int j = 0; j < known; j++) {
                Check.due("21 in the order in which they came", x.metClass(0, 10, j), argument[j]);
            }
            refusedIndex(x, known);
            refusedIndex(x, 3);
            refusedIndex(x, -1);
            refusedIndex(x, Integer.MAX_VALUE);
            refusedIndex(x, Integer.MIN_VALUE);
        }
        Check.due("20 crowded", x.met(0, 10), 4);
    }

    private static void refusedIndex(TieredMachine x, int index) {
        Check.refused("21 metClass(0, 10, " + index + ")", x, Check.INDEX, () -> x.metClass(0, 10, index));
    }

    private static long mixed(long... numbers) {
        long d = 97;
        for (long n : numbers) {
            d = d * 31 + n;
        }
        return d;
    }

    private static void digestOfProgram() {
        TieredMachine x = new TieredMachine();
        Check.due("22 at first", x.digest(), mixed(0, 0, 0, 0, 0));
        x.addClass(-1);
        x.addClass(0);
        Check.due("22 classes", x.digest(), mixed(2, 0, 0, 0, 0));
        x.addMethod();
        Check.due("22 a method", x.digest(), mixed(2, 1, 0, 0, 0, 0, 0, 0, 0));
        x.addMethod();
        int[] send = Check.op(Check.SEND, 0, 0, 1, 0);
        Check.append(x, 1, Check.op(Check.NEW, 1, 0), send, send);
        Check.due("22 two SENDs", x.digest(), mixed(2, 2, 0, 0, 0, 0, 3, 0, 0, 0, 0, 0, 0, 0, 0));
    }

    private static void digestOfExecution() {
        TieredMachine x = sender();
        x.setPolicy(2, 3, 3);
        int[] argument = {0, 0, 0, 1, 2, 3};
        for (int a : argument) {
            x.run(0, a, 100);
        }
        // The run before the last one has warmed the method to 1, the last one to 2, which is tier 1.
        Check.due("22 before", Check.learned(x, 0) + " " + Check.learned(x, 1) + " " + Check.records(x, 0),
            "1/2/1 2/6/0 10:4[012] ");
        Check.due("22 a result", x.digest(),
            mixed(4, 4, 12, 1, 2, 1, 4, 0, 2, 6, 0, 2, 0, 0, 0, 2, 0, 0, 0, 240 + 48 + 2, 12, 0));
        x.implement(0, 0, -1);
        x.run(0, 0, 100);
        Check.due("22 an error", x.digest(),
            mixed(4, 4, 12, 2, 3, 1, 4, 0, 2, 6, 0, 2, 0, 0, 0, 2, 0, 0, 0, 600 + 4, 4, 2));
        long before = x.digest();
        Check.due("22 the same again", x.digest(), before);
    }
}
