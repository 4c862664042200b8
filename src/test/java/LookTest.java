/** Promises 6 to 12: about, sheet, field, drawnIn, printed, work, setting. */
public final class LookTest {
    public static void main(String[] args) {
        about();
        sheetInTheTree();
        sheetNumbers();
        field();
        drawnIn();
        printed();
        mayBeBuiltBy();
        work();
        setting();
        Run.end("LookTest");
    }

    /** Sheet 2 under 1 under 0, 3 under 0, 4 alone; the prints 0 and 1 of sheet 2 are recalled. */
    private static Run office(String name) {
        return new Run(name).after("draw(-1)", "draw(0)", "draw(1)", "draw(0)", "draw(-1)", "set(1,0)",
            "print(2,0)", "print(2,3)", "print(4,1)", "build(0,0)", "build(1,1)", "build(2,2)", "run(2)",
            "revise(2,3)");
    }

    private static void about() {
        office("promise 6").badArgument("about(-1)", "about(10)", "about(-2147483648)")
            .due(5, "about(0)").due(3, "about(1)", "about(2)").due(2, "about(3)").due(0, "about(4)")
            .due(3, "about(5)").due(2, "about(6)", "about(7)", "about(8)").due(0, "about(9)")
            .due(0, "back(0)").due(3, "about(1)").due(2, "about(2)").due(1, "about(3)")
            .after("run(3)").due(0, "about(4)", "about(9)").due(5, "about(8)")
            .after("run(1)").due(1, "about(4)").due(5, "about(9)").after("run(2)").due(15, "about(9)")
            .after("mend(0)").due(1, "about(6)").after("check(1)").due(1, "about(7)").due(3, "back(1)")
            .due(0, "about(3)", "about(4)").due(1, "about(2)").due(15, "about(9)");
    }

    private static void sheetInTheTree() {
        Run run = new Run("promise 7, tree").after("draw(-1)", "draw(-1)", "draw(0)", "draw(2)", "draw(0)",
            "draw(3)", "draw(1)", "draw(2)");
        int[] parents = {-1, -1, 0, 2, 0, 3, 1, 2};
        int[] under = {5, 1, 3, 1, 0, 0, 0, 0};
        int[] above = {0, 0, 1, 2, 1, 3, 1, 2};
        int[] heights = {4, 2, 3, 2, 1, 1, 1, 1};
        for (int s = 0; s < 8; s++) {
            run.due(parents[s], "sheet(" + s + ",0)").due(under[s], "sheet(" + s + ",3)")
                .due(above[s], "sheet(" + s + ",4)").due(heights[s], "sheet(" + s + ",6)");
        }
        run.noSuch("sheet(8,0)", "sheet(-1,0)", "sheet(8,9)").badArgument("sheet(0,8)", "sheet(0,-1)");
        Run chain = new Run("promise 7, chain");
        for (int s = 0; s < 10; s++) {
            chain.due(s, "draw(" + (s - 1) + ")");
        }
        chain.due(10, "sheet(0,6)").due(9, "sheet(0,3)", "sheet(9,4)").due(1, "sheet(9,6)").due(0, "sheet(9,3)");
    }

    private static void sheetNumbers() {
        office("promise 7").due(1, "sheet(2,1)", "sheet(0,2)", "sheet(1,2)").due(0, "sheet(2,2)", "sheet(3,2)",
                "sheet(4,2)", "sheet(0,1)", "sheet(4,1)")
            .due(2, "sheet(2,5)", "sheet(2,7)").due(1, "sheet(4,5)").due(0, "sheet(0,5)", "sheet(4,7)", "sheet(0,7)")
            .after("back(1)", "mend(1)").due(1, "sheet(2,5)", "sheet(2,7)");
    }

    private static void field() {
        office("promise 8").due(1, "field(2,0)", "field(2,1)").due(0, "field(2,2)", "field(2,11)", "field(4,0)")
            .after("revise(2,2049)").due(2, "field(2,0)", "field(2,11)").due(1, "field(2,1)")
            .noSuch("field(2,12)", "field(2,-1)", "field(5,0)", "field(-1,0)");
    }

    private static void drawnIn() {
        office("promise 9").due(4092, "drawnIn(2,0)").due(3, "drawnIn(2,1)").after("revise(2,2049)")
            .due(4092 - 2048, "drawnIn(2,0)").due(2, "drawnIn(2,1)").due(2049, "drawnIn(2,2)")
            .after("revise(2,4095)").due(0, "drawnIn(2,0)", "drawnIn(2,1)", "drawnIn(2,2)").due(4095, "drawnIn(2,3)")
            .badArgument("drawnIn(2,4)", "drawnIn(2,-1)", "drawnIn(0,1)").due(4095, "drawnIn(0,0)")
            .noSuch("drawnIn(5,0)", "drawnIn(-1,-1)");
    }

    private static void printed() {
        office("promise 10").due(2, "printed(1,0)").due(0, "printed(1,1)", "printed(1,3)", "printed(1,4)")
            .due(3, "printed(1,2)").due(1, "printed(1,5)").due(5, "printed(1,6)").due(-1, "printed(2,6)")
            .due(4092, "printed(1,8)").due(4095, "printed(2,8)")
            .due(3, "print(2,1)").due(1, "printed(3,1)", "printed(3,2)").due(2, "printed(3,3)")
            .after("stamp(3,2)", "stamp(3,0)").due(5, "printed(3,4)").due(4095, "printed(3,8)")
            .after("revise(2,6)").due(4088, "printed(1,8)").due(4089, "printed(3,8)").due(5, "printed(1,6)", "printed(3,6)")
            .after("run(1)", "set(0,20)", "revise(2,8)").due(5, "printed(1,6)", "printed(3,6)")
            .after("back(3)").due(0, "printed(3,5)").due(5, "printed(3,4)", "printed(3,6)").due(4081, "printed(3,8)")
            .noSuch("printed(4,0)", "printed(-1,0)", "printed(4,9)").badArgument("printed(0,9)", "printed(0,-1)");
        new Run("promise 10, back before").after("draw(-1)", "print(0,0)", "back(0)", "revise(0,1)")
            .due(-1, "printed(0,6)").due(4094, "printed(0,8)");
    }

    private static void mayBeBuiltBy() {
        Run run = new Run("promise 10, may be built by").after("draw(-1)", "draw(0)", "print(0,0)", "print(1,0)")
            .due(0, "printed(0,7)").after("stamp(0,0)").due(1, "printed(0,7)").due(0, "printed(1,7)")
            .after("set(1,3)").due(0, "printed(0,7)").after("stamp(0,1)", "stamp(0,1)").due(0, "printed(0,7)")
            .after("stamp(0,2)").due(1, "printed(0,7)").after("set(1,0)").due(1, "printed(1,7)");
        run.after("revise(1,1)").due(0, "printed(0,7)", "printed(1,7)").after("check(0)").due(1, "printed(0,7)")
            .due(0, "printed(1,7)").after("back(0)").due(0, "printed(0,7)")
            .after("print(1,2)").due(1, "printed(2,7)").after("revise(0,1)").due(1, "printed(2,7)");
    }

    private static void work() {
        office("promise 11").due(0, "work(0,0)").due(3, "work(1,0)").due(1, "work(2,0)").due(2, "work(1,1)")
            .due(4, "work(2,1)").due(1, "work(1,2)").due(2, "work(2,2)").due(0, "work(1,3)", "work(2,4)")
            .due(1, "work(0,4)", "work(1,4)").after("mend(1)").due(1, "work(1,3)").due(0, "work(1,4)")
            .after("revise(4,2)").due(0, "work(2,4)").after("revise(4,4)").due(1, "work(2,4)").due(0, "work(2,3)")
            .noSuch("work(3,0)", "work(-1,0)", "work(3,5)").badArgument("work(0,5)", "work(0,-1)");
    }

    private static void setting() {
        new Run("promise 12").due(3, "setting(0)").due(1, "setting(1)").due(5, "setting(2)")
            .badArgument("setting(3)", "setting(-1)").after("set(0,20)", "set(1,3)", "set(2,99)")
            .due(20, "setting(0)").due(3, "setting(1)").due(99, "setting(2)");
    }
}
