/** Promises 13 to 23: draw, revise, check, print, stamp, back, build, mend, run, set, undo. */
public final class ActionTest {
    public static void main(String[] args) {
        draw();
        reviseSheets();
        revisePrints();
        reviseRefused();
        check();
        print();
        stamp();
        back();
        build();
        mend();
        run();
        set();
        undoEach();
        undoForgets();
        undoAfterRefusals();
        Run.end("ActionTest");
    }

    private static void draw() {
        Run run = new Run("promise 13").noSuch("draw(0)", "draw(-2)", "draw(2147483647)").due(0, "draw(-1)")
            .due(1, "draw(0)").due(2, "draw(-1)").noSuch("draw(3)");
        run.due(0, "sheet(1,0)", "sheet(1,1)", "sheet(1,2)").due(4095, "drawnIn(1,0)");
        for (int s = 3; s < 10; s++) {
            run.due(s, "draw(1)");
        }
        run.notNow("draw(-1)", "draw(0)", "draw(9)").noSuch("draw(10)", "draw(-2)").due(10, "about(0)")
            .due(9, "undo()").due(9, "about(0)").after("revise(1,1)").due(9, "draw(-1)").due(0, "sheet(9,2)");
    }

    private static void reviseSheets() {
        new Run("promise 14, sheets").after("draw(-1)", "draw(0)", "draw(1)", "draw(1)", "draw(-1)")
            .due(0, "revise(2,5)").due(1, "sheet(2,1)", "field(2,0)", "field(2,2)").due(0, "field(2,1)", "sheet(1,1)")
            .due(1, "sheet(0,2)", "sheet(1,2)").due(0, "sheet(2,2)", "sheet(3,2)", "sheet(4,2)")
            .after("revise(1,1)").due(0, "sheet(1,2)", "sheet(2,2)").due(1, "sheet(0,2)")
            .after("revise(0,4095)").due(0, "about(7)").after("revise(3,2048)").due(2, "about(7)");
        new Run("promise 14, two trees").after("draw(-1)", "draw(0)", "draw(-1)", "draw(2)", "revise(1,1)", "revise(3,1)")
            .due(2, "about(7)").due(1, "sheet(0,2)", "sheet(2,2)");
    }

    private static void revisePrints() {
        new Run("promise 14, prints").after("draw(-1)", "draw(0)", "print(0,0)", "print(0,1)", "print(1,0)",
                "print(0,2)", "back(1)", "run(2)")
            .due(2, "revise(0,1)").due(5, "printed(0,6)", "printed(3,6)").due(-1, "printed(1,6)", "printed(2,6)")
            .due(0, "revise(0,1)").after("print(0,3)", "set(0,0)").due(1, "revise(0,1)").due(2, "printed(4,6)")
            .due(5, "printed(0,6)").due(1, "revise(1,8)").due(2, "printed(2,6)").due(1, "printed(0,5)");
    }

    private static void reviseRefused() {
        Run run = new Run("promise 14, refused").noSuch("revise(0,0)", "revise(-1,1)").after("draw(-1)")
            .badArgument("revise(0,0)", "revise(0,-1)", "revise(0,4096)").noSuch("revise(1,0)")
            .due(0, "sheet(0,1)").times(99, "revise(0,1)").due(99, "sheet(0,1)", "field(0,0)");
        run.notNow("revise(0,1)", "ifRevised(0,1,0)").badArgument("revise(0,0)", "ifRevised(0,1,4)", "ifRevised(0,0,0)")
            .due(99, "sheet(0,1)").due(1, "drawnIn(0,99)").due(4094, "drawnIn(0,0)").badArgument("drawnIn(0,100)");
        run.due(0, "runScript(1,100000)");
    }

    private static void check() {
        new Run("promise 15").noSuch("check(0)").after("draw(-1)", "draw(0)", "draw(1)").notNow("check(0)")
            .noSuch("check(3)", "check(-1)").after("revise(2,1)").notNow("check(2)").due(1, "check(1)")
            .notNow("check(1)").due(0, "check(0)").notNow("check(0)").due(0, "about(7)")
            .after("revise(1,1)").due(1, "about(7)").due(0, "check(0)");
    }

    private static void print() {
        Run run = new Run("promise 16").noSuch("print(0,0)").after("draw(-1)", "draw(-1)", "revise(1,1)", "run(3)")
            .noSuch("print(2,0)", "print(-1,0)", "print(0,4)", "print(0,-1)").due(0, "print(1,3)")
            .due(1, "printed(0,0)", "printed(0,1)", "printed(0,5)").due(3, "printed(0,2)", "printed(0,3)")
            .due(0, "printed(0,4)").due(-1, "printed(0,6)");
        for (int p = 1; p < 24; p++) {
            run.due(p, "print(0," + p % 4 + ")");
        }
        run.notNow("print(0,0)").noSuch("print(2,0)", "print(0,4)").due(24, "about(1)", "about(2)")
            .after("back(23)").notNow("print(0,0)").after("undo()", "undo()").due(23, "print(1,1)")
            .due(1, "printed(23,0)");
    }

    private static void stamp() {
        new Run("promise 17").noSuch("stamp(0,0)").after("draw(-1)", "print(0,0)", "print(0,1)").due(1, "stamp(0,2)")
            .due(1, "stamp(0,2)").due(2, "stamp(0,0)").due(3, "stamp(0,1)").due(7, "printed(0,4)").due(0, "printed(1,4)")
            .noSuch("stamp(0,3)", "stamp(0,-1)", "stamp(2,0)", "stamp(-1,0)").after("back(0)").notNow("stamp(0,0)")
            .noSuch("stamp(0,3)").after("revise(0,1)").notNow("stamp(1,0)").due(0, "printed(1,4)");
    }

    private static void back() {
        new Run("promise 18").noSuch("back(0)").after("draw(-1)", "print(0,0)", "print(0,0)", "print(0,0)",
                "print(0,0)")
            .due(0, "back(0)").notNow("back(0)").after("revise(0,1)").due(0, "back(1)").after("run(3)")
            .due(0, "back(2)").after("run(4)").due(4, "back(3)").notNow("back(3)").due(0, "about(2)")
            .noSuch("back(4)", "back(-1)").after("undo()").due(4, "back(3)");
    }

    private static void build() {
        Run run = new Run("promise 19").noSuch("build(0,0)").after("draw(-1)", "print(0,2)").notNow("build(0,0)")
            .noSuch("build(0,12)", "build(0,-1)", "build(1,0)", "build(-1,0)").after("stamp(0,0)");
        for (int w = 0; w < 30; w++) {
            run.due(w, "build(0," + w % 12 + ")");
        }
        run.notNow("build(0,0)").noSuch("build(0,12)").due(30, "about(5)").due(5, "work(29,2)").due(2, "work(29,0)")
            .due(0, "work(29,1)", "work(29,3)", "work(29,4)").after("undo()", "revise(0,1)").notNow("build(0,0)")
            .after("print(0,1)", "stamp(1,1)").due(29, "build(1,0)").due(1, "work(29,3)", "work(29,0)").due(0, "work(29,4)");
        new Run("promise 19, to be checked").after("draw(-1)", "draw(0)", "print(0,0)", "stamp(0,0)", "revise(1,1)")
            .notNow("build(0,0)").after("check(0)").due(0, "build(0,0)").after("back(0)").notNow("build(0,0)");
    }

    private static void mend() {
        new Run("promise 20").noSuch("mend(0)").after("draw(-1)", "set(1,0)", "print(0,0)", "build(0,0)", "build(0,1)",
                "build(0,2)")
            .notNow("mend(0)").after("revise(0,3)").due(2, "about(6)").notNow("mend(2)").noSuch("mend(3)", "mend(-1)")
            .after("revise(0,8)").due(1, "mend(0)").due(2, "work(0,3)").notNow("mend(0)").due(0, "mend(1)")
            .after("revise(0,1)").due(1, "work(0,4)").due(0, "mend(0)").due(3, "work(0,3)");
    }

    private static void run() {
        new Run("promise 21").badArgument("run(0)", "run(31)", "run(-1)", "run(2147483647)").due(0, "run(30)")
            .due(30, "about(8)").after("draw(-1)", "print(0,0)", "print(0,1)", "set(0,2)", "revise(0,1)")
            .due(0, "run(2)").due(10, "run(1)").due(2, "about(4)").after("set(2,7)").due(42, "run(3)")
            .after("back(0)").due(7, "run(1)").due(59, "about(9)").after("set(2,0)").due(0, "run(30)")
            .due(59, "about(9)").due(67, "about(8)");
        new Run("promise 21, over the due day").after("draw(-1)", "print(0,0)", "revise(0,1)").due(35, "run(10)")
            .after("undo()").due(20, "run(7)").due(150, "run(30)").due(170, "about(9)");
        new Run("promise 21, several due days").after("draw(-1)", "draw(-1)", "print(0,0)", "print(1,0)",
                "revise(0,1)", "run(2)", "revise(1,1)").due(5 * (3 + 1), "run(4)").due(10, "run(1)");
    }

    private static void set() {
        new Run("promise 22").due(3, "set(0,0)").due(0, "set(0,20)").due(20, "set(0,20)").due(1, "set(1,3)")
            .due(3, "set(1,0)").due(5, "set(2,99)").due(99, "set(2,0)")
            .badArgument("set(0,21)", "set(0,-1)", "set(1,4)", "set(1,-1)", "set(2,100)", "set(2,-1)", "set(3,0)",
                "set(-1,0)").due(20, "setting(0)").due(0, "setting(1)", "setting(2)").due(6, "undo()");
    }

    private static void undoEach() {
        new Run("promise 23, each action").notNow("undo()").due(0, "draw(-1)").due(0, "undo()").due(0, "about(0)")
            .notNow("undo()").after("draw(-1)", "draw(0)", "set(1,0)", "print(1,1)", "build(0,3)", "run(2)",
                "stamp(0,1)", "revise(1,8)", "mend(0)", "check(0)", "run(9)", "set(2,8)", "back(0)")
            .due(12, "undo()").due(1, "printed(0,5)").due(11, "undo()").due(5, "setting(2)")
            .due(10, "undo()").due(2, "about(8)").due(0, "about(9)").due(9, "undo()").due(1, "sheet(0,2)")
            .due(8, "undo()").due(1, "work(0,4)").due(0, "work(0,3)").due(7, "undo()").due(0, "sheet(0,2)", "field(1,3)",
                "sheet(1,1)", "work(0,4)").due(-1, "printed(0,6)").due(2, "printed(0,4)")
            .due(6, "undo()").due(0, "printed(0,4)").due(5, "undo()").due(0, "about(8)").due(4, "undo()")
            .due(0, "about(5)").due(3, "undo()").due(0, "about(1)").due(2, "undo()").due(1, "setting(1)")
            .due(1, "undo()").due(1, "about(0)").due(0, "undo()").notNow("undo()");
    }

    private static void undoForgets() {
        Run run = new Run("promise 23, 14 states").times(20, "run(1)");
        for (int left = 13; left >= 0; left--) {
            run.due(left, "undo()").due(6 + left, "about(8)");
        }
        run.notNow("undo()").due(6, "about(8)").times(15, "set(0,3)").due(13, "undo()").times(2, "run(2)")
            .due(13, "undo()").due(8, "about(8)").due(12, "undo()").due(6, "about(8)").due(11, "undo()")
            .due(6, "about(8)");
    }

    private static void undoAfterRefusals() {
        new Run("promise 23, refusals").times(14, "run(1)").badArgument("run(0)", "set(0,21)")
            .noSuch("draw(5)", "check(0)", "print(0,0)", "stamp(0,0)", "back(0)", "build(0,0)", "mend(0)", "revise(0,1)")
            .due(13, "undo()").due(13, "about(8)").after("coming(30)", "simulate(1,80)", "runScript(1,500001)", "save(0)")
            .due(12, "undo()").due(12, "about(8)").times(13, "run(1)").due(13, "undo()");
        Run run = new Run("promise 23, a refusal forgets nothing").times(16, "run(2)").badArgument("run(0)").notNow("restore(0)");
        for (int left = 13; left >= 0; left--) {
            run.due(left, "undo()").due(4 + 2 * left, "about(8)");
        }
        run.notNow("undo()");
    }
}
