/** The boundary cases that the document names under 'Tiers': a test for each sentence, in the document's order. */
final class TierEdgesTest extends Programs {

    public static void main(String[] args) {
        nothingAtFirst();
        settingsAtFirst();
        smallestAndGreatestSettings();
        heatIncreases();
        firstThreshold();
        secondThreshold();
        budget();
        costOfCompilations();
        record();
        noting();
        trust();
        trustIsOfTheCompilation();
        trustOfAnEmptyRecord();
        trustAtTheFirstAndTheLastPlace();
        trustEnds();
        Check.end();
    }

    private static void nothingAtFirst() {
        Check.sentence("Each method has a tier (0 at first), a heat (0 at first), and a number of disappointments (0 "
            + "at first).");
        TieredMachine x = new TieredMachine();
        for (int i = 0; i < 12; i++) {
            x.addMethod();
            Check.due("method " + i, Check.learned(x, i), "0/0/0");
            x.run(i, 0, 0);
        }
    }

    private static void runs(TieredMachine x, int count, int argument) {
        for (int i = 0; i < count; i++) {
            x.run(0, argument, 100);
        }
    }

    private static void learned(String what, TieredMachine x, String want) {
        Check.due(what, Check.learned(x, 0), want);
    }

    private static void settingsAtFirst() {
        Check.sentence("Settings are the first threshold (1 to 1000, 5 at first), the second threshold (1 to 1000, 20 "
            + "at first) and the budget (0 to 5, 2 at first).");
        TieredMachine x = sender();
        runs(x, 4, 0);
        learned("below 5", x, "0/4/0");
        runs(x, 1, 0);
        learned("at 5", x, "1/5/0");
        runs(x, 14, 0);
        learned("below 20", x, "1/19/0");
        runs(x, 1, 0);
        learned("at 20", x, "2/20/0");
        runs(x, 1, 1);
        runs(x, 20, 1);
        learned("one disappointment is fewer than 2", x, "2/20/1");
        runs(x, 1, 2);
        runs(x, 40, 2);
        learned("two are not", x, "1/40/2");
        Check.due("as they are at first", new TieredMachine().setPolicy(5, 20, 2), false);
    }

    private static void smallestAndGreatestSettings() {
        TieredMachine x = single(jump(0));
        x.setPolicy(1, 1000, 0);
        x.run(0, 0, 0);
        learned("first threshold 1", x, "1/1/0");
        x.forget();
        x.setPolicy(1, 1, 1);
        x.run(0, 0, 0);
        learned("second threshold 1", x, "2/1/0");
        x.forget();
        x.setPolicy(1000, 1, 0);
        x.run(0, 0, 998);
        learned("first threshold 1000, heat 999", x, "0/999/0");
        x.run(0, 0, 0);
        learned("first threshold 1000, heat 1000", x, "1/1000/0");
        x.forget();
        x.setPolicy(1, 1000, 5);
        x.run(0, 0, 998);
        learned("second threshold 1000, heat 999", x, "1/999/0");
        x.run(0, 0, 0);
        learned("second threshold 1000, heat 1000", x, "2/1000/0");
    }

    private static void heatIncreases() {
        Check.sentence("To warm a method means: its heat increases by 1.");
        TieredMachine x = single(jump(0));
        x.setPolicy(1, 1, 1);
        int[] steps = {0, 0, 1, 2, 2000, 2000, 0};
        int heat = 0;
        for (int each : steps) {
            x.run(0, 0, each);
            heat += 1 + each;
            Check.due("also in tier 2, without a greatest heat", x.heat(0), heat);
        }
    }

    private static void firstThreshold() {
        Check.sentence("Then, if its tier is 0 and its heat is at least the first threshold, it is compiled to tier "
            + "1.");
        for (int first : new int[] {1, 2, 3, 7}) {
            TieredMachine x = single(answer(0));
            x.setPolicy(first, 1000, 2);
            runs(x, first - 1, 0);
            learned("one below", x, "0/" + (first - 1) + "/0");
            runs(x, 1, 0);
            learned("at it", x, "1/" + first + "/0");
            Check.due("once", x.total(0), 1);
            runs(x, 1, 0);
            learned("above it", x, "1/" + (first + 1) + "/0");
            Check.due("its tier is not 0 any more", x.total(0), 1);
        }
        TieredMachine x = single(answer(0));
        runs(x, 4, 0);
        x.setPolicy(6, 1000, 2);
        runs(x, 1, 0);
        learned("below a threshold that was raised", x, "0/5/0");
        x.setPolicy(2, 1000, 2);
        learned("a threshold alone does not compile", x, "0/5/0");
        runs(x, 1, 0);
        learned("far above one that was lowered", x, "1/6/0");
    }

    private static void secondThreshold() {
        Check.sentence("Then, if its tier is 1, its heat is at least the second threshold, and its disappointments "
            + "are fewer than the budget, it is compiled to tier 2.");
        for (int second : new int[] {3, 4, 9}) {
            TieredMachine x = single(answer(0));
            x.setPolicy(2, second, 1);
            runs(x, second - 1, 0);
            learned("one below", x, "1/" + (second - 1) + "/0");
            runs(x, 1, 0);
            learned("at it", x, "2/" + second + "/0");
            runs(x, 1, 0);
            learned("above it", x, "2/" + (second + 1) + "/0");
            Check.due("once", Check.totals(x), "1,1,0,0");
        }
        for (int second : new int[] {1, 2, 3}) {
            TieredMachine x = single(answer(0));
            x.setPolicy(3, second, 1);
            runs(x, 2, 0);
            learned("tier 0 is not compiled to tier 2", x, "0/2/0");
            runs(x, 1, 0);
            learned("both by one warming", x, "2/3/0");
            Check.due("both by one warming", Check.totals(x), "1,1,0,0");
        }
    }

    private static void budget() {
        String[] want = {"1/5/0", "1/4/1", "1/3/2", "1/2/3", "1/1/4", "0/0/5"};
        for (int budget = 0; budget <= 5; budget++) {
            TieredMachine x = doubleSender();
            x.setPolicy(1, 1, budget);
            for (int argument = 0; argument <= 4; argument++) {
                x.run(0, argument, 100);
            }
            learned("the budget " + budget + ", five occasions", x, want[budget]);
            Check.due("the disappointments with the budget " + budget, x.total(2), budget);
        }
        TieredMachine x = doubleSender();
        x.setPolicy(1, 1, 5);
        for (int argument = 0; argument <= 4; argument++) {
            x.run(0, argument, 100);
        }
        runs(x, 3, 0);
        learned("the greatest budget is spent", x, "1/3/5");
        TieredMachine y = sender();
        y.setPolicy(1, 1, 1);
        runs(y, 1, 0);
        y.setPolicy(1, 1, 2);
        runs(y, 1, 0);
        learned("a greater budget", y, "2/1/1");
        y.setPolicy(1, 1, 0);
        runs(y, 1, 0);
        learned("a smaller budget takes no tier away", y, "2/2/1");
    }

    private static void costOfCompilations() {
        Check.sentence("A compilation to tier 1 costs 20 times the number of its instructions, one to tier 2 costs 50 "
            + "times this number.");
        for (int length : new int[] {0, 1, 2, 19, 20}) {
            TieredMachine x = single(times(length, set(0, 1)));
            x.setPolicy(1, 1000, 1);
            x.run(0, 0, 0);
            Check.due("tier 1, " + length + " instructions", x.cost(), 20 * length);
            x.setPolicy(1, 1, 1);
            x.run(0, 0, 0);
            Check.due("tier 2, " + length + " instructions", x.cost(), 50 * length);
            x.forget();
            x.run(0, 0, 0);
            Check.due("both, " + length + " instructions", x.cost(), 70 * length);
            x.run(0, 0, 0);
            Check.due("none, " + length + " instructions", x.cost(), 0);
            Check.due("even without a cost they count", Check.totals(x), "2,2,0,0");
        }
    }

    private static void records(String what, TieredMachine x, String want) {
        Check.due(what, Check.records(x, 0), want);
    }

    private static void record() {
        Check.sentence("Each SEND instruction has a record: the classes that it has met, at most 3, in the order in "
            + "which they came, and whether it is crowded.");
        int[][] orders = {{0, 1, 2, 3}, {3, 2, 1, 0}, {1, 3, 0, 2}, {2, 0, 3, 1}};
        for (int[] order : orders) {
            TieredMachine x = sender();
            x.setPolicy(1000, 1000, 0);
            records("empty", x, "10:0[] ");
            String came = "";
            for (int i = 0; i < 3; i++) {
                x.run(0, order[i], 100);
                came += order[i];
                records("so far", x, "10:" + (i + 1) + "[" + came + "] ");
            }
            x.run(0, order[3], 100);
            records("no fourth one", x, "10:4[" + came + "] ");
        }
        TieredMachine y = doubleSender();
        y.run(0, 0, 100);
        y.run(0, 4, 100);
        records("each SEND has its own", y, "12:1[3] 13:2[03] ");
    }

    private static void noting() {
        Check.sentence("To note a class means: if it is not in the record, it is added, or, if there are 3 already, "
            + "the record becomes crowded.");
        TieredMachine x = sender();
        x.setPolicy(1000, 1000, 0);
        runs(x, 3, 2);
        records("one that is in it", x, "10:1[2] ");
        x.run(0, 0, 100);
        x.run(0, 3, 100);
        for (int known : new int[] {2, 0, 3}) {
            x.run(0, known, 100);
            records("one that is in it, which is full, but not crowded", x, "10:3[203] ");
        }
        x.run(0, 1, 100);
        records("one more", x, "10:4[203] ");
        for (int any = 0; any < 4; any++) {
            x.run(0, any, 100);
            records("once crowded, it stays so", x, "10:4[203] ");
        }
    }

    private static void costs(String what, TieredMachine x, int argument, int want) {
        x.run(0, argument, 100);
        Check.due(what, x.cost(), want);
    }

    private static void trust() {
        Check.sentence("When a method is compiled to tier 2, the present records of its SENDs are what it trusts "
            + "until its tier becomes another one.");
        TieredMachine x = sender();
        x.setPolicy(1, 4, 5);
        for (int argument : new int[] {2, 1, 0}) {
            x.run(0, argument, 100);
        }
        costs("the record is full: the last of it", x, 0, 600 + 5 + 2);
        costs("the second of it", x, 1, 8 + 1);
        costs("the first of it", x, 2, 11 + 0);
        costs("one that is not in it", x, 3, 11 + 2 + 10);
        learned("one that is not in it", x, "0/0/1");
        TieredMachine y = recursive();
        y.setPolicy(1, 2, 5);
        y.run(0, 1, 100);
        records("class 1 was noted after the compilation", y, "4:1[0] 6:1[1] ");
        y.run(0, 1, 100);
        learned("so it is not trusted", y, "0/0/1");
    }

    /** Methods 2, 3 and 5 are in tier 1: NEW and SEND cost 4 each, and the search for method 0 costs 1 or 2. */
    private static void trustIsOfTheCompilation() {
        TieredMachine x = crowdedLater();
        learned("compiled before the fourth class came", x, "2/5/0");
        records("crowded since then", x, "4:1[0] 5:4[012] ");
        x.run(2, 0, 100);
        Check.due("class 0 is trusted with the index 0", x.cost(), 8 + 1 + 3 + 0);
        x.run(3, 0, 100);
        Check.due("class 1 is trusted with the index 1", x.cost(), 8 + 2 + 3 + 1);
        x.run(5, 0, 100);
        Check.due("class 3 is not trusted", x.cost(), 8 + 2 + 3 + 2);
        learned("class 3 is not trusted", x, "0/0/1");
        records("crowded as before", x, "4:1[0] 5:4[012] ");
    }

    private static void trustOfAnEmptyRecord() {
        for (int argument = 0; argument < 4; argument++) {
            TieredMachine x = sender();
            x.setPolicy(1, 1, 5);
            x.run(0, argument, 100);
            learned("an empty record trusts no class", x, "0/0/1");
            records("the class is noted", x, "10:1[" + argument + "] ");
            x.run(0, argument, 100);
            learned("then it is trusted", x, "2/1/1");
        }
    }

    private static void trustAtTheFirstAndTheLastPlace() {
        TieredMachine x = firstAndLastPlace();
        x.setPolicy(1, 2, 5);
        x.run(3, 0, 100);
        x.run(2, 0, 100);
        learned("class 0 is not trusted at the first place", x, "0/0/1");
        records("class 0 is noted at both", x, "0:2[10] 19:2[10] ");
        x.run(2, 0, 100);
        x.run(2, 0, 100);
        learned("both are trusted at both", x, "2/2/1");
        // Method 2 trusts class 0, with the index 0, and ends without a cost; method 0 has it with the index 1 twice.
        x.run(2, 0, 100);
        Check.due("both are trusted at both", x.cost(), 2 + 20 + 1 + 1);
    }

    private static void trustEnds() {
        TieredMachine x = sender();
        x.setPolicy(1, 1, 5);
        x.run(0, 0, 100);
        x.run(0, 1, 100);
        learned("what the second compilation trusts has no class 1", x, "0/0/2");
        costs("what the third one trusts has it", x, 1, 840 + 8 + 1);
        Check.due("it falls", x.implement(1, 0, 2), 1);
        x.setPolicy(1, 1000, 5);
        x.run(0, 2, 100);
        learned("tier 1 trusts nothing", x, "1/1/2");
        x.setPolicy(1, 1, 5);
        costs("what the fourth one trusts has class 2", x, 2, 600 + 11 + 2);
        x.append(0, Check.SET, 0, 0, 0, 0);
        x.run(0, 2, 100);
        learned("after append the record was empty", x, "0/0/1");
        x.run(0, 2, 100);
        x.forget();
        x.run(0, 2, 100);
        learned("after forget too", x, "0/0/1");
    }
}
