import java.math.BigInteger;

/** The boundary cases that promises 17 to 22 name: a test for each sentence, in the document's order. */
final class LearnedEdgesTest extends Programs {

    public static void main(String[] args) {
        tier();
        heat();
        disappointments();
        noSuchMethod();
        met();
        metNoSend();
        metClass();
        metClassNoSend();
        metClassNoIndex();
        digestOfNothing();
        digestOfEverything();
        digestWrapsAround();
        Check.end();
    }

    private static void tier() {
        Check.sentence("17: Returns its tier.");
        TieredMachine x = new TieredMachine();
        for (int method = 0; method < 12; method++) {
            x.addMethod();
            Check.due("at first", x.tier(method), 0);
            x.setPolicy(1, 1000, 0);
            x.run(method, 0, 0);
            Check.due("compiled", x.tier(method), 1);
            x.setPolicy(1, 1, 1);
            x.run(method, 0, 0);
            Check.due("compiled again", x.tier(method), 2);
            x.run(method, 0, 0);
            Check.due("there is no tier 3", x.tier(method), 2);
            x.append(method, Check.SET, 0, 0, 0, 0);
            Check.due("unlearned", x.tier(method), 0);
        }
    }

    private static void heat() {
        Check.sentence("18: Returns its heat.");
        TieredMachine x = new TieredMachine();
        for (int method = 0; method < 12; method++) {
            x.addMethod();
            Check.due("at first", x.heat(method), 0);
            for (int i = 0; i <= method; i++) {
                x.run(method, 0, 0);
            }
        }
        for (int method = 0; method < 12; method++) {
            Check.due("each its own", x.heat(method), method + 1);
        }
    }

    private static void disappointments() {
        Check.sentence("19: Returns its disappointments.");
        TieredMachine x = doubleSender();
        x.setPolicy(1, 1, 5);
        Check.due("at first", x.disappointments(0), 0);
        for (int argument = 0; argument < 5; argument++) {
            x.run(0, argument, 100);
            Check.due("one more", x.disappointments(0), argument + 1);
            Check.due("not the called one's", x.disappointments(1), 0);
        }
        x.run(0, 4, 100);
        Check.due("never more than the budget", x.disappointments(0), 5);
    }

    private static void noSuchMethod() {
        for (String promise : new String[] {"17", "18", "19", "20", "21"}) {
            Check.sentence(promise + ": Throws IndexOutOfBoundsException if there is no such method");
            TieredMachine x = chain(1);
            for (int count = 0; count <= 12; count++) {
                for (int bad : Check.outside(0, count - 1)) {
                    Check.refused(bad + " of " + count, x, Check.INDEX, () -> ask(x, promise, bad));
                }
                if (count < 12) {
                    int newest = method(x, make(1, 0), send(0, 0, 1, 0));
                    x.implement(0, 0, newest);
                    x.run(newest, 0, 2);
                    Check.due("the newest one", ask(x, promise, newest) >= 0, true);
                }
            }
        }
    }

    private static int ask(TieredMachine x, String promise, int method) {
        switch (promise) {
            case "17":
                return x.tier(method);
            case "18":
                return x.heat(method);
            case "19":
                return x.disappointments(method);
            case "20":
                return x.met(method, 1);
            default:
                return x.metClass(method, 1, 0);
        }
    }

    private static void met() {
        Check.sentence("20: Returns how many classes its record has; 4 if it is crowded.");
        TieredMachine x = sender();
        Check.due("empty", x.met(0, 10), 0);
        int[] arguments = {0, 0, 1, 0, 1, 2, 0, 1, 2, 3, 3, 0, 1, 2};
        int[] want = {1, 1, 2, 2, 2, 3, 3, 3, 3, 4, 4, 4, 4, 4};
        for (int i = 0; i < arguments.length; i++) {
            x.run(0, arguments[i], 100);
            Check.due("after run " + i, x.met(0, 10), want[i]);
        }
        TieredMachine y = chain(1);
        method(y, times(20, send(0, 0, 0, 0)));
        for (int place = 0; place < 20; place++) {
            Check.due("place " + place, y.met(0, place), 0);
        }
    }

    private static void metNoSend() {
        Check.sentence("20: Throws IndexOutOfBoundsException if there is .. no SEND at the place");
        TieredMachine x = firstAndLastPlace();
        x.run(2, 0, 100);
        Check.due("the first place", x.met(0, 0), 1);
        Check.due("the last place", x.met(0, 19), 1);
        for (int place = 1; place < 19; place++) {
            int bad = place;
            Check.refused("place " + bad, x, Check.INDEX, () -> x.met(0, bad));
        }
        for (int bad : Check.outside(0, 19)) {
            Check.refused("place " + bad, x, Check.INDEX, () -> x.met(0, bad));
            Check.refused("place " + bad + " of an empty method", x, Check.INDEX, () -> x.met(1, bad));
        }
        Check.refused("place 0 of an empty method", x, Check.INDEX, () -> x.met(1, 0));
        Check.refused("behind the last one of a short method", x, Check.INDEX, () -> x.met(2, 2));
        for (int kind = 0; kind <= 8; kind++) {
            TieredMachine y = chain(1);
            y.addMethod();
            y.append(0, kind, 0, 0, 0, 0);
            if (kind != Check.SEND) {
                Check.refused("kind " + kind, y, Check.INDEX, () -> y.met(0, 0));
            }
        }
    }

    private static void metClass() {
        Check.sentence("21: index: an index in its record, from 0. Returns the class.");
        TieredMachine x = sender();
        x.setPolicy(1000, 1000, 0);
        int[] order = {3, 0, 2, 1};
        for (int i = 0; i < 4; i++) {
            x.run(0, order[i], 100);
            for (int index = 0; index <= Math.min(i, 2); index++) {
                Check.due("index " + index + ", also if it is crowded", x.metClass(0, 10, index), order[index]);
            }
        }
        TieredMachine y = chain(8);
        y.addMethod();
        y.implement(0, 0, 0);
        int caller = method(y, make(1, 7), send(0, 0, 1, 0));
        y.run(caller, 0, 10);
        Check.due("the object's class, not the one that implements", y.metClass(caller, 1, 0), 7);
    }

    private static void metClassNoSend() {
        Check.sentence("21: Throws IndexOutOfBoundsException if there is .. no SEND at the place");
        TieredMachine x = firstAndLastPlace();
        x.run(3, 0, 100);
        Check.due("the first place", x.metClass(0, 0, 0), 1);
        Check.due("the last place", x.metClass(0, 19, 0), 1);
        for (int place = 1; place < 19; place++) {
            int bad = place;
            Check.refused("place " + bad, x, Check.INDEX, () -> x.metClass(0, bad, 0));
        }
        for (int bad : Check.outside(0, 19)) {
            Check.refused("place " + bad, x, Check.INDEX, () -> x.metClass(0, bad, 0));
            Check.refused("place " + bad + " of an empty method", x, Check.INDEX, () -> x.metClass(1, bad, 0));
        }
    }

    private static void metClassNoIndex() {
        Check.sentence("21: Throws IndexOutOfBoundsException if there is .. no such index");
        TieredMachine x = sender();
        for (int count = 0; count <= 4; count++) {
            for (int bad : Check.outside(0, Math.min(count, 3) - 1)) {
                Check.refused(bad + " after " + count + " classes", x, Check.INDEX, () -> x.metClass(0, 10, bad));
            }
            Check.refused("the fourth is never there", x, Check.INDEX, () -> x.metClass(0, 10, 3));
            if (count < 4) {
                x.run(0, count, 100);
            }
        }
        x.forget();
        Check.refused("a class that was forgotten", x, Check.INDEX, () -> x.metClass(0, 10, 0));
    }

    private static final BigInteger WORD = BigInteger.ONE.shiftLeft(64);

    /** Without a bound, and brought into 64 bits at the end, so that it does not wrap around by the way. */
    private static long mixed(long... numbers) {
        BigInteger d = BigInteger.valueOf(97);
        for (long x : numbers) {
            d = d.multiply(BigInteger.valueOf(31)).add(BigInteger.valueOf(x));
        }
        return d.mod(WORD).longValue();
    }

    private static void digestOfNothing() {
        Check.sentence("22: the number of classes; the number of methods");
        TieredMachine x = new TieredMachine();
        Check.due("nothing", x.digest(), mixed(0, 0, 0, 0, 0));
        for (int count = 1; count <= 8; count++) {
            x.addClass(-1);
            Check.due(count + " classes", x.digest(), mixed(count, 0, 0, 0, 0));
        }
        x.addMethod();
        Check.due("an empty method", x.digest(), mixed(8, 1, 0, 0, 0, 0, 0, 0, 0));
        x.addMethod();
        Check.due("two of them", x.digest(), mixed(8, 2, 0, 0, 0, 0, 0, 0, 0, 0, 0, 0, 0));
    }

    private static void digestOfEverything() {
        Check.sentence("22: for each method the number of its instructions, its tier, its heat, its disappointments, "
            + "and for each SEND in it what met tells; the cost, the steps and the error of the latest execution.");
        TieredMachine x = doubleSender();
        x.setPolicy(1, 1, 5);
        Check.due("nothing was executed", x.digest(), mixed(4, 2, 15, 0, 0, 0, 0, 0, 0, 0, 0, 0, 0, 0, 0));
        x.run(0, 0, 100);
        Check.due("disappointed", x.digest(),
            mixed(4, 2, 15, 0, 0, 1, 0, 1, 0, 2, 1, 0, 15 * 70 + 4 + 1 + 10, 5, 0));
        x.run(0, 1, 100);
        x.run(0, 2, 100);
        x.run(0, 3, 100);
        Check.due("crowded", Check.learned(x, 0) + Check.records(x, 0), "0/0/412:0[] 13:4[012] ");
        Check.due("crowded", x.digest(),
            mixed(4, 2, 15, 0, 0, 4, 0, 4, 0, 2, 4, 0, 15 * 70 + 12 + 1 + 2 + 10, 14, 0));
        x.implement(0, 0, -1);
        x.run(0, 4, 100);
        Check.due("an error", x.error(), 2);
        Check.due("an error", x.digest(), mixed(4, 2, 15, 2, 1, 4, 0, 4, 0, 2, 4, 0, 15 * 70 + 13, 13, 2));
        Check.due("to ask changes nothing", x.digest(), x.digest());
    }

    private static void digestWrapsAround() {
        Check.sentence("22: A number d starts with 97; for each of the following numbers x, d becomes d * 31 + x, "
            + "which wraps around as a 64-bit integer");
        TieredMachine x = chain(8);
        boolean below = false;
        boolean above = false;
        for (int count = 1; count <= 12; count++) {
            method(x, times(20, send(0, 0, 0, 0)));
            long[] numbers = new long[2 + 24 * count + 3];
            numbers[0] = 8;
            numbers[1] = count;
            for (int method = 0; method < count; method++) {
                numbers[2 + 24 * method] = 20;
            }
            Check.due(count + " methods of 20 SENDs", x.digest(), mixed(numbers));
            below |= x.digest() < 0;
            above |= x.digest() > 0;
        }
        Check.due("digests below 0 and above it", below && above, true);
    }
}
