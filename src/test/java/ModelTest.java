import java.lang.reflect.InvocationTargetException;
import java.lang.reflect.Method;
import java.util.ArrayList;
import java.util.Arrays;
import java.util.Comparator;
import java.util.List;
import java.util.Random;

/**
 * Random runs of 512 calls, the same ones on the class and on Model: each must answer, or throw, the same. The
 * random source has a fixed seed, so that a run that fails can be seen again.
 */
final class ModelTest {
    private static final int RUNS = 1500;
    private static final int CALLS = 512;
    private static final int[] FAR = {Integer.MIN_VALUE, Integer.MAX_VALUE, -1, -2, 4, 6, 8, 9, 12, 20, 21, 2001};

    private final Random random;
    private final int run;
    private final TieredMachine machine = new TieredMachine();
    private final Model model = new Model();
    private int types = 0;
    private int methods = 0;
    private int calls = 0;

    private ModelTest(int run) {
        this.run = run;
        this.random = new Random(run * 7919L + 13);
    }

    public static void main(String[] args) throws Exception {
        for (int run = 0; run < RUNS; run++) {
            new ModelTest(run).go();
        }
        Check.end();
    }

    private void go() throws Exception {
        if (run % 2 == 0) {
            goWild();
        } else {
            goLively();
        }
    }

    private void goWild() throws Exception {
        build();
        while (calls < CALLS) {
            int choice = random.nextInt(100);
            if (choice < 35) {
                int steps = random.nextInt(random.nextInt(3) == 0 ? 60 : 2001);
                call("run", below(methods), value(), steps);
                tellAll();
            } else if (choice < 50) {
                call("implement", below(types), random.nextInt(3), below(methods + 1) - 1);
            } else if (choice < 58) {
                call("setPolicy", 1 + random.nextInt(8), 1 + random.nextInt(16), random.nextInt(6));
            } else if (choice < 60) {
                call("forget");
            } else if (choice < 64) {
                appendSome(below(methods));
            } else if (choice < 66) {
                grow();
            } else {
                anyCall();
            }
        }
    }

    /** Few calls take away what was learned, so that the tiers rise and fall in the executions themselves. */
    private void goLively() throws Exception {
        buildLively();
        while (calls < CALLS) {
            int choice = random.nextInt(100);
            if (choice < 75) {
                call("run", below(methods), random.nextInt(15) == 0 ? 25 : random.nextInt(8), random.nextInt(2001));
                tellAll();
                call("metClass", below(methods), random.nextInt(20), random.nextInt(3));
            } else if (choice < 86) {
                call("implement", below(types), random.nextInt(3), below(methods + 1) - 1);
            } else if (choice < 95) {
                call("setPolicy", 1 + random.nextInt(12), 1 + random.nextInt(30), 1 + random.nextInt(5));
            } else if (choice < 97) {
                call("forget");
            } else {
                anyCall();
            }
        }
    }

    private void grow() throws Exception {
        if (random.nextBoolean()) {
            call("addClass", below(types + 1) - 1);
            types = Math.min(8, types + 1);
        } else {
            call("addMethod");
            methods = Math.min(12, methods + 1);
        }
    }

    private void addEmpty(int wantedTypes, int wantedMethods) throws Exception {
        for (; types < wantedTypes; types++) {
            call("addClass", below(types + 1) - 1);
        }
        for (; methods < wantedMethods; methods++) {
            call("addMethod");
        }
    }

    private void build() throws Exception {
        addEmpty(2 + random.nextInt(5), 2 + random.nextInt(4));
        for (int m = 0; m < methods; m++) {
            int length = random.nextInt(21);
            for (int i = 0; i < length; i++) {
                appendSome(m);
            }
        }
        for (int selector = 0; selector < 3; selector++) {
            for (int i = 0; i < 2; i++) {
                call("implement", i == 0 ? 0 : below(types), selector, below(methods));
            }
        }
        call("setPolicy", 1 + random.nextInt(5), 1 + random.nextInt(12), random.nextInt(6));
    }

    private void buildLively() throws Exception {
        addEmpty(4 + random.nextInt(5), 3 + random.nextInt(3));
        for (int m = 0; m < methods; m++) {
            appendLively(m);
        }
        for (int type = 0; type < types; type++) {
            for (int selector = 0; selector < 3; selector++) {
                if (type == 0 || random.nextInt(2) == 0) {
                    call("implement", type, selector, below(methods));
                }
            }
        }
        call("setPolicy", 1 + random.nextInt(6), 1 + random.nextInt(20), 1 + random.nextInt(5));
    }

    /**
     * A method that ends if its argument is below 1, and otherwise sends a smaller one, to its own object and to new
     * ones whose class depends on the argument: it has some of itself running below it, and meets several classes.
     */
    private void appendLively(int method) throws Exception {
        List<int[]> code = new ArrayList<>();
        if (random.nextInt(3) == 0) {
            code.add(Programs.make(1, below(types)));
        }
        code.add(Programs.set(2, 1));
        int guard = code.size();
        code.add(null);
        code.add(Programs.sub(0, 0, 2));
        while (code.size() < 14) {
            addLivelyPart(code);
        }
        code.set(guard, Programs.less(0, 2, code.size()));
        code.add(Programs.answer(2 * random.nextInt(2)));
        for (int[] i : code) {
            call("append", method, i[0], i[1], i.length > 2 ? i[2] : 0, i.length > 3 ? i[3] : 0,
                i.length > 4 ? i[4] : 0);
        }
    }

    private void addLivelyPart(List<int[]> code) {
        int here = code.size();
        int selector = random.nextInt(3);
        switch (random.nextInt(4)) {
            case 0 -> code.add(Programs.send(2, selector, 1, 0));
            case 1 -> code.addAll(List.of(Programs.make(3, below(types)), Programs.send(2, selector, 3, 0)));
            case 2 -> code.addAll(List.of(Programs.set(2, random.nextInt(6)), Programs.make(3, below(types)),
                Programs.less(0, 2, here + 4), Programs.make(3, below(types)), Programs.send(2, selector, 3, 0)));
            default -> code.addAll(List.of(Programs.set(2, 1), Programs.sub(0, 0, 2),
                Programs.less(2, 0, random.nextInt(here + 3))));
        }
    }

    private int below(int bound) {
        return bound <= 0 ? 0 : random.nextInt(bound);
    }

    private int value() {
        return random.nextInt(20) == 0 ? FAR[random.nextInt(FAR.length)] : random.nextInt(12) - 1;
    }

    /** Registers have customs, so that most programs do not fail at once: 0 and 2 hold ints, 1 and 3 objects. */
    private void appendSome(int method) throws Exception {
        int number = random.nextInt(12) == 0 ? random.nextInt(4) : 2 * random.nextInt(2);
        int other = 2 * random.nextInt(2);
        int object = random.nextInt(15) == 0 ? random.nextInt(4) : 1 + 2 * random.nextInt(2);
        int choice = random.nextInt(100);
        if (choice < 12) {
            call("append", method, Check.SET, number, value(), 0, 0);
        } else if (choice < 28) {
            call("append", method, 1 + random.nextInt(3), other, number, other, 0);
        } else if (choice < 48) {
            call("append", method, Check.NEW, object, below(types), 0, 0);
        } else if (choice < 78) {
            call("append", method, Check.SEND, other, random.nextInt(20) == 0 ? 5 : random.nextInt(3),
                random.nextInt(4) == 0 ? object : 1, random.nextInt(6) == 0 ? object : number);
        } else if (choice < 90) {
            call("append", method, Check.LESS, number, other, random.nextInt(21), 0);
        } else if (choice < 95) {
            call("append", method, Check.JUMP, random.nextInt(21), 0, 0, 0);
        } else {
            call("append", method, Check.RETURN, random.nextInt(4), 0, 0, 0);
        }
    }

    private void tellAll() throws Exception {
        for (String name : new String[] {"result", "resultClass", "error", "cost", "steps", "depth", "digest"}) {
            call(name);
        }
        call("total", random.nextInt(4));
    }

    private static final Method[] ALL = Arrays.stream(Model.class.getDeclaredMethods())
        .filter(m -> java.lang.reflect.Modifier.isPublic(m.getModifiers()))
        .sorted(Comparator.comparing(Method::getName))
        .toArray(Method[]::new);

    /** Any method with any arguments, so also wrong ones; addMethod and addClass may change the counts. */
    private void anyCall() throws Exception {
        Method m = ALL[random.nextInt(ALL.length)];
        Object[] arguments = new Object[m.getParameterCount()];
        for (int i = 0; i < arguments.length; i++) {
            arguments[i] = random.nextInt(8) == 0 ? FAR[random.nextInt(FAR.length)] : random.nextInt(7) - 1;
        }
        String answer = call(m.getName(), arguments);
        boolean answered = !answer.startsWith("throws");
        types += answered && m.getName().equals("addClass") ? 1 : 0;
        methods += answered && m.getName().equals("addMethod") ? 1 : 0;
    }

    private String call(String name, Object... arguments) throws Exception {
        calls++;
        String got = answer(machine, name, arguments);
        String want = answer(model, name, arguments);
        Check.due("run " + run + ", call " + calls + ": " + name + Arrays.toString(arguments), got, want);
        return want;
    }

    private static String answer(Object target, String name, Object[] arguments) throws Exception {
        Class<?>[] parameters = new Class<?>[arguments.length];
        Arrays.fill(parameters, int.class);
        try {
            return String.valueOf(target.getClass().getMethod(name, parameters).invoke(target, arguments));
        } catch (InvocationTargetException e) {
            boolean itself = Check.thrownBy(e.getCause(), target.getClass());
            return "throws " + e.getCause().getClass().getName() + (itself ? "" : ", not by itself");
        }
    }
}
