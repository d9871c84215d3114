/** What the tests share: counting wrong answers, the kinds of instructions, a picture of all that an object tells. */
final class Check {
    static final int SET = 0;
    static final int ADD = 1;
    static final int SUB = 2;
    static final int MUL = 3;
    static final int NEW = 4;
    static final int SEND = 5;
    static final int LESS = 6;
    static final int JUMP = 7;
    static final int RETURN = 8;

    static final Class<IndexOutOfBoundsException> INDEX = IndexOutOfBoundsException.class;
    static final Class<IllegalArgumentException> ARGUMENT = IllegalArgumentException.class;
    static final Class<IllegalStateException> STATE = IllegalStateException.class;

    private static int wrong = 0;
    private static int looked = 0;
    private static String sentence = "";
    private static int lookedBefore = 0;

    interface Call {
        void go();
    }

    private Check() {
    }

    /** Names the document's sentence that the checks behind this call are for; one without a check is a fault. */
    static void sentence(String words) {
        endSentence();
        sentence = words;
        lookedBefore = looked;
    }

    private static void endSentence() {
        if (!sentence.isEmpty() && looked == lookedBefore) {
            complain("nothing was checked");
        }
    }

    /** The ints nearest to a range, on both sides of it, and the farthest ones. */
    static int[] outside(int low, int high) {
        return new int[] {Integer.MIN_VALUE, low - 1, high + 1, Integer.MAX_VALUE};
    }

    static void due(String what, long got, long want) {
        looked++;
        if (got != want) {
            complain(what + " answered " + got + ", due is " + want);
        }
    }

    static void due(String what, boolean got, boolean want) {
        due(what, got ? 1 : 0, want ? 1 : 0);
    }

    static void due(String what, String got, String want) {
        looked++;
        if (!got.equals(want)) {
            complain(what + " answered " + got + ", due is " + want);
        }
    }

    /**
     * The call must throw just this class (no class below it), by a throw statement of TieredMachine itself, and
     * nothing that the object tells may change.
     */
    static void refused(String what, TieredMachine x, Class<? extends RuntimeException> type, Call call) {
        String before = picture(x);
        Class<?> thrown = null;
        try {
            call.go();
        } catch (RuntimeException e) {
            thrown = e.getClass();
            due(what + ": thrown by the class itself", thrownBy(e, TieredMachine.class), true);
        }
        looked++;
        if (thrown != type) {
            complain(what + " threw " + thrown + ", due is " + type);
        }
        due(what + ": what the object tells afterwards", picture(x), before);
    }

    /** False if the library has thrown it; what the Java machine throws is of other classes than the document's. */
    static boolean thrownBy(Throwable e, Class<?> thrower) {
        StackTraceElement[] trace = e.getStackTrace();
        return trace.length > 0 && (trace[0].getClassName() + "$").startsWith(thrower.getName() + "$");
    }

    static void complain(String text) {
        wrong++;
        System.out.println(sentence.isEmpty() ? text : "\"" + sentence + "\": " + text);
    }

    static void end() {
        endSentence();
        System.out.println(wrong == 0 ? looked + " answers are as due" : wrong + " answers are not as due");
        if (wrong != 0) {
            System.exit(1);
        }
    }

    static void append(TieredMachine x, int method, int[]... instructions) {
        for (int[] i : instructions) {
            x.append(method, i[0], at(i, 1), at(i, 2), at(i, 3), at(i, 4));
        }
    }

    static int[] op(int... parts) {
        return parts;
    }

    private static int at(int[] row, int index) {
        return index < row.length ? row[index] : 0;
    }

    static String records(TieredMachine x, int method) {
        StringBuilder text = new StringBuilder();
        for (int place = 0; place < 20; place++) {
            int met;
            try {
                met = x.met(method, place);
            } catch (IndexOutOfBoundsException e) {
                continue;
            }
            text.append(place).append(':').append(met).append('[');
            for (int i = 0; i < Math.min(met, 3); i++) {
                text.append(x.metClass(method, place, i));
            }
            text.append("] ");
        }
        return text.toString();
    }

    static String learned(TieredMachine x, int method) {
        return x.tier(method) + "/" + x.heat(method) + "/" + x.disappointments(method);
    }

    static String totals(TieredMachine x) {
        return x.total(0) + "," + x.total(1) + "," + x.total(2) + "," + x.total(3);
    }

    static String outcome(TieredMachine x) {
        return "result " + x.result() + " class " + x.resultClass() + " error " + x.error()
            + " cost " + x.cost() + " steps " + x.steps() + " depth " + x.depth();
    }

    static String picture(TieredMachine x) {
        StringBuilder text = new StringBuilder();
        text.append(x.digest()).append(' ').append(totals(x)).append(' ').append(outcome(x));
        for (int method = 0; method < 12; method++) {
            try {
                text.append(" method ").append(method).append(' ').append(learned(x, method));
            } catch (IndexOutOfBoundsException e) {
                break;
            }
            text.append(' ').append(records(x, method));
        }
        for (int type = 0; type < 8; type++) {
            try {
                for (int selector = 0; selector < 6; selector++) {
                    text.append(' ').append(x.understands(type, selector));
                }
            } catch (IndexOutOfBoundsException e) {
                break;
            }
        }
        return text.toString();
    }
}
