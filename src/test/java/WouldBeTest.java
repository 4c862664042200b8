/** Promises 24 to 29: truePrint, ifRevised, coming, fetch, worst, common. */
public final class WouldBeTest {
    public static void main(String[] args) {
        truePrint();
        ifRevised();
        ifRevisedRefused();
        coming();
        fetch();
        worst();
        common();
        Run.end("WouldBeTest");
    }

    private static void truePrint() {
        new Run("promise 24").noSuch("truePrint(0,0)").after("draw(-1)", "draw(0)", "print(0,1)", "print(1,1)",
                "print(0,2)", "print(0,1)")
            .due(-1, "truePrint(1,0)").after("stamp(3,0)").due(3, "truePrint(1,0)").after("stamp(0,1)", "stamp(1,1)")
            .due(0, "truePrint(1,0)").due(1, "truePrint(1,1)").due(-1, "truePrint(2,0)", "truePrint(0,0)", "truePrint(3,0)")
            .after("back(0)").due(3, "truePrint(1,0)").after("revise(1,1)").due(-1, "truePrint(1,0)", "truePrint(1,1)")
            .after("check(0)").due(3, "truePrint(1,0)").due(-1, "truePrint(1,1)")
            .noSuch("truePrint(4,0)", "truePrint(-1,0)", "truePrint(0,2)", "truePrint(0,-1)");
    }

    /** The works 0 and 1 are of sheet 2, 2 of sheet 0; sheet 2 is under 1 under 0. */
    private static Run office(String name) {
        return new Run(name).after("draw(-1)", "draw(0)", "draw(1)", "set(1,0)", "print(2,0)", "print(2,0)",
            "print(2,3)", "print(0,1)", "build(0,0)", "build(2,1)", "build(3,0)", "back(1)");
    }

    private static void ifRevised() {
        office("promise 25").due(2, "ifRevised(2,1,0)").due(1, "ifRevised(2,1,1)", "ifRevised(2,2,1)", "ifRevised(0,1,1)")
            .due(2, "ifRevised(2,3,1)", "ifRevised(2,4095,1)", "ifRevised(2,4,2)", "ifRevised(2,4,3)")
            .due(0, "ifRevised(2,4,1)", "ifRevised(0,1,2)", "ifRevised(1,1,0)", "ifRevised(1,1,3)")
            .due(1, "ifRevised(1,1,2)", "ifRevised(0,1,0)", "ifRevised(0,1,3)").due(0, "sheet(2,1)", "about(7)")
            .after("revise(1,1)").due(1, "ifRevised(2,1,2)").due(0, "ifRevised(0,1,2)", "ifRevised(1,1,2)", "ifRevised(0,1,3)")
            .due(1, "ifRevised(0,1,0)").after("revise(2,1)").due(0, "ifRevised(2,1,0)", "ifRevised(2,1,1)", "ifRevised(2,1,2)",
                "ifRevised(2,1,3)").due(1, "ifRevised(2,3,1)")
            .after("print(2,0)", "mend(0)").due(1, "ifRevised(2,1,0)", "ifRevised(2,1,1)", "ifRevised(2,1,3)")
            .after("set(1,1)").due(1, "ifRevised(2,1,0)").due(0, "ifRevised(2,1,3)");
    }

    private static void ifRevisedRefused() {
        office("promise 25, refused").noSuch("ifRevised(3,1,0)", "ifRevised(-1,1,0)", "ifRevised(3,0,9)")
            .badArgument("ifRevised(0,0,0)", "ifRevised(0,4096,0)", "ifRevised(0,-1,0)", "ifRevised(0,1,-1)",
                "ifRevised(0,1,4)");
    }

    private static void coming() {
        new Run("promise 26").badArgument("coming(0)", "coming(31)", "coming(-5)").due(0, "coming(30)")
            .after("draw(-1)", "print(0,0)", "print(0,0)", "revise(0,1)").due(0, "coming(1)", "coming(3)")
            .due(10, "coming(4)").due(270, "coming(30)").due(0, "about(8)", "about(9)").after("run(2)")
            .due(0, "coming(1)").due(10, "coming(2)").after("back(0)").due(5, "coming(2)").after("run(4)", "set(2,99)")
            .due(99, "coming(1)").due(2970, "coming(30)").due(2970, "run(30)");
    }

    private static void fetch() {
        new Run("promise 27").badArgument("fetch(-1)", "fetch(-2147483648)").due(-1, "fetch(0)", "fetch(2147483647)")
            .after("draw(-1)", "draw(-1)", "draw(-1)", "print(0,0)", "print(1,0)", "print(2,0)", "print(1,0)", "print(0,0)")
            .due(-1, "fetch(0)").after("revise(0,1)").due(0, "fetch(0)").due(4, "fetch(1)").due(-1, "fetch(2)")
            .after("set(0,1)", "revise(1,1)").due(1, "fetch(0)").due(3, "fetch(1)").due(0, "fetch(2)").due(4, "fetch(3)")
            .due(-1, "fetch(4)").after("set(0,2)", "revise(2,1)", "back(1)").due(3, "fetch(0)").due(2, "fetch(1)")
            .due(0, "fetch(2)").due(4, "fetch(3)").due(-1, "fetch(4)", "fetch(5)").badArgument("fetch(-1)");
    }

    private static void worst() {
        new Run("promise 28").due(0, "worst()").after("draw(-1)", "draw(-1)", "set(1,0)", "print(0,3)", "print(0,1)",
                "build(0,0)", "build(1,1)", "build(1,0)", "revise(0,2)")
            .due(1, "worst()").after("revise(0,1)").due(1, "worst()").after("mend(1)").due(1, "worst()")
            .after("mend(2)").due(3, "worst()").after("run(4)").due(3, "worst()").after("mend(0)").due(1, "worst()")
            .after("print(1,2)", "print(1,2)", "revise(1,1)", "run(3)").due(1, "worst()").after("run(1)").due(2, "worst()")
            .after("back(2)").due(1, "worst()").after("back(3)", "back(1)").due(3, "worst()").after("back(0)").due(0, "worst()");
    }

    private static void common() {
        Run run = new Run("promise 29").noSuch("common(0,0)").after("draw(-1)", "draw(0)", "draw(1)", "draw(0)", "draw(3)",
            "draw(1)", "draw(-1)", "draw(6)");
        run.due(0, "common(0,0)", "common(2,4)", "common(1,3)", "common(0,5)", "common(4,0)")
            .due(1, "common(2,5)", "common(5,2)", "common(1,5)", "common(2,1)").due(3, "common(3,4)").due(4, "common(4,4)")
            .due(-1, "common(0,6)", "common(7,2)").due(6, "common(7,6)", "common(6,7)").due(7, "common(7,7)")
            .noSuch("common(8,0)", "common(0,8)", "common(-1,0)", "common(0,-1)")
            .after("draw(7)", "draw(8)").due(9, "common(9,9)").due(8, "common(9,8)").due(6, "common(6,9)");
    }
}
