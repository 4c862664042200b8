/** Promises 30 and 31: runScript, simulate. */
public final class ScriptTest {
    public static void main(String[] args) {
        range();
        order();
        revise();
        prints();
        days();
        conditions();
        zerosInPlace();
        copyOnly();
        simulateRange();
        simulateKnown();
        simulateFull();
        Run.end("ScriptTest");
    }

    private static void range() {
        new Run("promise 30, range").badArgument("runScript(0,0)", "runScript(4,500001)", "runScript(1,-1)",
                "runScript(1,1000000)", "runScript(2,1000000000000)", "runScript(3,1000000000000000000)",
                "runScript(3,9223372036854775807)", "runScript(3,-9223372036854775808)")
            .due(0, "runScript(1,0)", "runScript(2,0)", "runScript(3,0)", "runScript(1,999999)",
                "runScript(3,999999999999999999)")
            .due(-1, "runScript(1,500001)", "runScript(2,500001500030)", "runScript(3,500001500030500029)");
    }

    private static void order() {
        new Run("promise 30, order").after("draw(-1)").due(0, "runScript(2,500001)", "runScript(3,500001500001)")
            .due(1, "runScript(2,500001000000)").due(2, "runScript(3,500001500001000001)")
            .due(1, "runScript(3,500001000000500001)").due(0, "runScript(3,500001)");
    }

    private static void revise() {
        new Run("promise 30, revise").due(0, "runScript(1,100000)").after("draw(-1)", "draw(0)")
            .due(-1, "runScript(1,100000)", "runScript(1,110110)", "runScript(1,110100)")
            .due(0, "runScript(1,100120)", "runScript(1,100320)", "runScript(1,100990)", "runScript(1,120000)")
            .due(-1, "runScript(2,110000700000)").due(1, "runScript(2,110000710000)", "runScript(2,100000700000)")
            .due(2, "runScript(3,110000700000700000)");
    }

    private static void prints() {
        new Run("promise 30, prints").after("draw(-1)").due(-1, "runScript(1,203000)", "runScript(1,200000)")
            .due(0, "runScript(1,204000)", "runScript(1,210000)", "runScript(1,300000)", "runScript(1,600000)")
            .due(-1, "runScript(2,200000300200)", "runScript(2,200000600000)").due(1, "runScript(2,200000300300)",
                "runScript(2,200000301000)", "runScript(2,200000601000)", "runScript(2,200000400000)")
            .due(-1, "runScript(3,200000300000400110)").due(2, "runScript(3,200000300000400120)",
                "runScript(3,200000300000401000)", "runScript(3,200000600000300000)", "runScript(3,200000600000600000)",
                "runScript(3,200000100000300000)");
        Run run = new Run("promise 30, print 11").after("draw(-1)").times(11, "print(0,0)").due(0, "runScript(1,611000)")
            .after("print(0,0)").due(-1, "runScript(1,611000)", "runScript(1,311200)", "runScript(2,311200411050)")
            .due(0, "runScript(1,612000)", "runScript(1,699000)");
        run.times(12, "print(0,0)").due(0, "runScript(1,200000)").due(-1, "runScript(1,623000)");
    }

    private static void days() {
        new Run("promise 30, days").due(0, "runScript(1,500000)", "runScript(1,500031)", "runScript(1,500099)",
                "runScript(1,500101)", "runScript(1,501001)", "runScript(1,510001)")
            .due(-1, "runScript(1,500030)", "runScript(1,500009)");
    }

    private static void conditions() {
        new Run("promise 30, conditions").after("draw(-1)", "set(1,0)", "print(0,0)", "build(0,0)", "build(0,1)")
            .due(-1, "runScript(1,800000)", "runScript(1,900001)").due(0, "runScript(1,900000)", "runScript(1,900002)",
                "runScript(1,901000)", "runScript(1,901001)", "runScript(1,900010)", "runScript(1,900100)",
                "runScript(1,900101)", "runScript(1,900011)")
            .after("revise(0,3)").due(0, "runScript(1,800000)", "runScript(1,800001)", "runScript(1,900001)")
            .due(-1, "runScript(1,800002)", "runScript(1,800099)", "runScript(1,900000)")
            .due(0, "runScript(1,900002)", "runScript(1,900010)", "runScript(1,900100)")
            .after("mend(0)", "mend(1)").due(-1, "runScript(1,800000)").due(0, "runScript(1,800100)")
            .after("undo()", "undo()").due(0, "runScript(1,800102)", "runScript(1,801002)", "runScript(1,810002)");
    }

    private static void zerosInPlace() {
        new Run("promise 30, zeros").after("draw(-1)", "draw(0)", "set(1,0)", "print(0,0)", "print(1,0)", "revise(1,1)")
            .due(-1, "runScript(1,100000)", "runScript(1,200000)", "runScript(1,300000)", "runScript(1,600000)",
                "runScript(1,700000)", "runScript(2,700000400000)")
            .due(0, "runScript(1,101000)", "runScript(1,100001)", "runScript(1,200001)", "runScript(1,200010)",
                "runScript(1,200100)", "runScript(1,300001)", "runScript(1,300010)", "runScript(1,600001)",
                "runScript(1,600010)", "runScript(1,600100)", "runScript(1,700001)", "runScript(1,700010)",
                "runScript(1,700100)", "runScript(1,701000)", "runScript(1,1)", "runScript(1,99999)")
            .due(1, "runScript(2,700000400001)");
    }

    private static void copyOnly() {
        new Run("promise 30, copy").after("draw(-1)", "print(0,0)").due(-1, "runScript(3,100000500030600000)")
            .due(1, "runScript(2,100000900001)").due(0, "sheet(0,1)", "about(8)", "about(9)").due(1, "printed(0,5)", "undo()")
            .due(0, "undo()").notNow("undo()");
    }

    private static void simulateRange() {
        new Run("promise 31, range").badArgument("simulate(0,0)", "simulate(0,81)", "simulate(0,-1)")
            .due(0, "simulate(0,1)", "simulate(0,80)", "simulate(-9223372036854775808,80)", "simulate(9223372036854775807,80)")
            .due(0, "about(0)", "about(8)").notNow("undo()");
    }

    /** The answers come from the model of the tests, which ModelTest compares in many more runs. */
    private static void simulateKnown() {
        String[] calls = {"draw(-1)", "draw(0)", "draw(1)", "draw(0)", "set(1,0)", "set(0,1)", "set(2,9)",
            "print(0,0)", "print(1,1)", "print(2,2)", "build(0,0)", "build(1,1)", "build(2,2)", "revise(1,2)"};
        for (long seed = -150; seed < 150; seed++) {
            Run run = new Run("promise 31, seed " + seed);
            Model model = new Model();
            for (String call : calls) {
                sameAnswer(run, model, call);
            }
            for (int p = 3; p < Math.min(24, Math.abs(seed)); p++) {
                sameAnswer(run, model, "print(" + p % 4 + "," + p / 4 % 4 + ")");
            }
            sameAnswer(run, model, "set(1," + Math.floorMod(seed, 3) + ")");
            for (int m = 1; m <= 80; m += 13) {
                sameAnswer(run, model, "simulate(" + seed * 0x5DEECE66DL + "," + m + ")");
            }
            run.due(0, "about(8)").due(4, "about(0)").due(13, "undo()");
        }
    }

    private static void sameAnswer(Run run, Model model, String call) {
        run.due(Long.parseLong(model.answer(call)), call);
    }

    private static void simulateFull() {
        Run run = new Run("promise 31, 999").after("draw(-1)", "set(0,0)", "set(2,99)").times(24, "print(0,0)")
            .after("revise(0,1)").due(0, "about(9)");
        int most = 0;
        for (int seed = 0; seed < 20; seed++) {
            String answer = run.answer("simulate(" + seed + ",80)");
            most = Math.max(most, Integer.parseInt(answer) % 1000);
        }
        Run.check("the greatest cost that simulate tells", most, 999);
        run.due(0, "about(9)", "about(8)").after("run(1)").due(24 * 99, "about(9)");
        int turnsOfNoCost = 0;
        for (int seed = 100; seed < 120; seed++) {
            turnsOfNoCost += run.answer("simulate(" + seed + ",1)").equals("0") ? 1 : 0;
        }
        Run.check("the cost so far does not count", turnsOfNoCost > 0 && turnsOfNoCost < 20, true);
    }
}
