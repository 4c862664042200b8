/** The boundary cases of the promises 24 to 29, a run for each argument, result and exception. */
public final class EdgeWouldBeTest {
    private static final String NO_SHEET = "Throws `IndexOutOfBoundsException` if there is no such sheet";

    public static void main(String[] args) {
        truePrint();
        ifRevisedNumbers();
        ifRevisedRefused();
        coming();
        fetch();
        worst();
        common();
        Doc.allTested(24, 29);
        Run.end("EdgeWouldBeTest");
    }

    private static Run chain(Run run) {
        for (int s = 0; s < 10; s++) {
            run.after("draw(" + (s - 1) + ")");
        }
        return run;
    }

    private static void truePrint() {
        Doc.promise(24, "`site`: 0 to 3").after("draw(-1)", "set(1,0)", "print(0,3)", "print(0,0)").thereAre(4, "truePrint(#,0)")
            .due(0, "truePrint(3,0)").due(1, "truePrint(0,0)").due(-1, "truePrint(1,0)", "truePrint(2,0)");
        chain(Doc.promise(24, "`s`: sheet")).after("set(1,0)", "print(9,0)", "print(0,0)").thereAre(10, "truePrint(0,#)")
            .due(0, "truePrint(0,9)").due(1, "truePrint(0,0)").due(-1, "truePrint(0,8)");
        Run first = Doc.promise(24, "Returns of the prints of the sheet at this site that may be built by the one that was made "
            + "first; NONE if there is none.").after("draw(-1)", "draw(-1)", "set(1,0)").due(-1, "truePrint(1,0)")
            .after("print(1,1)", "print(0,2)").due(-1, "truePrint(1,0)").times(22, "print(0,1)");
        for (int p = 2; p < 24; p++) {
            first.due(p, "truePrint(1,0)").after("back(" + p + ")");
        }
        first.due(-1, "truePrint(1,0)").due(0, "truePrint(1,1)").due(1, "truePrint(2,0)").after("set(1,1)").due(-1, "truePrint(1,1)");
        Doc.promise(24, "Throws `IndexOutOfBoundsException` if there is no such site or sheet").noSuch("truePrint(0,0)")
            .after("draw(-1)").noSuch("truePrint(4,0)", "truePrint(-1,0)", "truePrint(0,1)", "truePrint(0,-1)", "truePrint(4,1)")
            .due(-1, "truePrint(3,0)");
    }

    private static void ifRevisedNumbers() {
        Run recalled = Doc.promise(25, "0: the prints that would be recalled").after("draw(-1)", "draw(-1)").due(0, "ifRevised(0,1,0)");
        recalled.times(24, "print(0,1)").due(24, "ifRevised(0,1,0)").due(0, "ifRevised(1,1,0)").after("back(0)")
            .due(23, "ifRevised(0,4095,0)").after("revise(0,1)").due(0, "ifRevised(0,1,0)");
        Run wrong = Doc.promise(25, "1: the works that are not wrong, and would be").after("draw(-1)", "draw(-1)", "set(1,0)",
            "print(0,0)", "print(1,0)").due(0, "ifRevised(0,4095,1)");
        for (int w = 0; w < 28; w++) {
            wrong.after("build(0," + w % 12 + ")");
        }
        wrong.after("build(1,0)", "build(1,0)").due(28, "ifRevised(0,4095,1)").due(3, "ifRevised(0,1,1)").due(2, "ifRevised(0,2048,1)")
            .due(2, "ifRevised(1,1,1)").due(0, "ifRevised(1,4094,1)").after("revise(0,1)").due(25, "ifRevised(0,4095,1)")
            .due(0, "ifRevised(0,1,1)").after("mend(0)").due(1, "ifRevised(0,1,1)").after("back(0)").due(26, "ifRevised(0,4095,1)");
        chain(Doc.promise(25, "2: the sheets that are not to be checked, and would be")).due(0, "ifRevised(0,1,2)")
            .due(1, "ifRevised(1,1,2)").due(9, "ifRevised(9,4095,2)").after("revise(9,1)").due(0, "ifRevised(9,1,2)")
            .after("check(0)").due(1, "ifRevised(9,1,2)", "ifRevised(1,1,2)").after("revise(8,1)").due(1, "ifRevised(9,1,2)")
            .due(0, "ifRevised(8,1,2)");
        Doc.promise(25, "3: the sites that would have no print of this sheet any more that may be built by, and have one now")
            .after("draw(-1)", "draw(0)", "set(1,0)").due(0, "ifRevised(0,1,3)").after("print(0,0)", "print(0,0)")
            .due(1, "ifRevised(0,1,3)").after("print(0,1)", "print(0,2)", "print(0,3)", "print(1,3)").due(4, "ifRevised(0,1,3)")
            .due(1, "ifRevised(1,1,3)").after("back(0)").due(4, "ifRevised(0,1,3)").after("back(1)").due(3, "ifRevised(0,1,3)")
            .after("set(1,1)").due(0, "ifRevised(0,1,3)", "ifRevised(1,1,3)").after("stamp(2,0)", "stamp(4,2)")
            .due(2, "ifRevised(0,1,3)").after("revise(1,1)").due(0, "ifRevised(0,1,3)").after("check(0)").due(2, "ifRevised(0,1,3)")
            .after("revise(0,1)").due(0, "ifRevised(0,1,3)");
    }

    private static void ifRevisedRefused() {
        chain(Doc.promise(25, "`s`: sheet")).thereAre(10, "ifRevised(#,1,0)");
        Doc.promise(25, "`fields`: 1 to 4095, as a set").after("draw(-1)").range(1, 4095, "ifRevised(0,#,0)")
            .range(1, 4095, "ifRevised(0,#,3)");
        Doc.promise(25, NO_SHEET).noSuch("ifRevised(0,1,0)").after("draw(-1)").noSuch("ifRevised(1,1,0)", "ifRevised(-1,1,0)",
            "ifRevised(1,0,0)", "ifRevised(1,1,4)");
        Doc.promise(25, "Throws `IllegalArgumentException` if fields or what is out of range").after("draw(-1)")
            .range(0, 3, "ifRevised(0,1,#)").badArgument("ifRevised(0,0,0)", "ifRevised(0,4096,0)", "ifRevised(0,0,4)",
                "ifRevised(0,4096,-1)");
        Doc.promise(25, "Throws `IllegalStateException` if its revision is 99").after("draw(-1)", "draw(-1)").times(98, "revise(0,1)")
            .due(0, "ifRevised(0,1,0)", "ifRevised(0,1,3)").after("revise(0,1)").notNow("ifRevised(0,1,0)", "ifRevised(0,4095,1)",
                "ifRevised(0,1,2)", "ifRevised(0,1,3)").badArgument("ifRevised(0,0,0)", "ifRevised(0,1,4)")
            .due(0, "ifRevised(1,1,0)").due(99, "sheet(0,1)").after("undo()").due(0, "ifRevised(0,1,0)");
    }

    private static void coming() {
        Doc.promise(26, "`n`: 1 to 30").range(1, 30, "coming(#)").due(0, "about(8)");
        Run same = Doc.promise(26, "Returns what run(n) would return.").after("draw(-1)", "print(0,0)", "print(0,1)", "revise(0,1)");
        for (int n = 1; n <= 30; n++) {
            int cost = 10 * Math.max(0, n - 3);
            same.due(cost, "coming(" + n + ")", "run(" + n + ")").due(n, "about(8)").after("undo()").due(0, "about(8)", "about(9)");
        }
        same.after("run(10)");
        for (int n = 1; n <= 30; n++) {
            same.due(10 * n, "coming(" + n + ")");
        }
        same.after("set(2,0)").due(0, "coming(30)").after("set(2,99)", "back(0)").due(2970, "coming(30)").after("back(1)")
            .due(0, "coming(30)");
        Doc.promise(26, "Throws `IllegalArgumentException` if n is out of range").badArgument("coming(0)", "coming(31)", "coming(-1)",
            "coming(-2147483648)", "coming(2147483647)").due(0, "coming(1)", "coming(30)");
    }

    private static void fetch() {
        Run order = Doc.promise(27, "`k`: which one, from 0: of those that are out and recalled, the one that is due first is the "
            + "first one, of several the lowest").after("draw(-1)", "draw(-1)").times(11, "print(0,0)").times(12, "print(1,0)");
        order.after("print(0,0)", "set(0,20)", "revise(0,1)", "run(1)", "set(0,18)", "revise(1,1)");
        for (int k = 0; k < 24; k++) {
            order.due(k < 12 ? 11 + k : k == 23 ? 23 : k - 12, "fetch(" + k + ")");
        }
        order.due(-1, "fetch(24)", "fetch(2147483647)").after("back(11)").due(12, "fetch(0)").due(23, "fetch(22)")
            .due(-1, "fetch(23)").after("back(23)").due(10, "fetch(21)").due(-1, "fetch(22)");
        Doc.promise(27, "`k`: which one, from 0: of those that are out and recalled, the one that is due first is the first one, of "
                + "several the lowest").after("draw(-1)", "draw(-1)", "print(0,0)", "print(1,0)", "run(2)", "revise(0,1)")
            .due(0, "fetch(0)").after("run(3)", "set(0,0)", "revise(1,1)").due(0, "fetch(0)").due(1, "fetch(1)").due(-1, "fetch(2)");
        Doc.promise(27, "Returns the print; NONE if there are not so many.").due(-1, "fetch(0)").after("draw(-1)", "print(0,0)",
                "print(0,0)").due(-1, "fetch(0)").after("back(1)", "revise(0,1)").due(0, "fetch(0)").due(-1, "fetch(1)")
            .after("back(0)").due(-1, "fetch(0)");
        Doc.promise(27, "Throws `IllegalArgumentException` if k is negative").badArgument("fetch(-1)", "fetch(-2147483648)")
            .due(-1, "fetch(0)", "fetch(2147483647)");
    }

    private static void worst() {
        String sentence = "Returns the site with most overdue prints, of several that with most wrong works, of several the lowest.";
        Doc.promise(28, sentence).due(0, "worst()").after("draw(-1)", "set(1,0)", "print(0,3)").due(0, "worst()")
            .after("revise(0,1)", "run(3)").due(0, "worst()").after("run(1)").due(3, "worst()").after("back(0)").due(0, "worst()");
        for (int site = 0; site <= 3; site++) {
            Doc.promise(28, sentence).after("draw(-1)", "set(1,0)", "print(0," + site + ")", "build(0,0)").due(0, "worst()")
                .after("revise(0,1)").due(site, "worst()").after("mend(0)").due(0, "worst()").after("run(4)").due(site, "worst()");
        }
        Doc.promise(28, sentence).after("draw(-1)", "set(1,0)", "print(0,2)", "print(0,1)", "build(0,0)", "build(1,0)", "revise(0,1)")
            .due(1, "worst()").after("run(4)").due(1, "worst()").after("mend(1)").due(2, "worst()").after("back(0)")
            .due(1, "worst()").after("back(1)").due(2, "worst()");
        Doc.promise(28, sentence).after("draw(-1)", "draw(-1)", "set(1,0)", "print(0,1)", "print(1,3)", "print(1,3)", "build(0,0)",
                "build(0,1)", "build(0,2)", "set(0,0)", "revise(0,7)", "revise(1,1)", "run(1)")
            .due(3, "worst()").after("back(2)").due(1, "worst()").after("back(0)").due(3, "worst()");
    }

    private static void common() {
        chain(Doc.promise(29, "`s`: sheet")).thereAre(10, "common(#,0)").due(0, "common(9,0)", "common(0,0)");
        chain(Doc.promise(29, "`t`: sheet")).thereAre(10, "common(9,#)").due(9, "common(9,9)").due(8, "common(9,8)");
        Doc.promise(29, "Returns the lowest one in the tree that each of both is, or is under; NONE if there is none.")
            .after("draw(-1)", "draw(-1)", "draw(0)", "draw(0)", "draw(2)", "draw(2)", "draw(3)", "draw(4)").due(-1, "common(0,1)",
                "common(1,7)", "common(7,1)").due(0, "common(0,0)", "common(2,3)", "common(7,6)", "common(0,7)", "common(6,5)")
            .due(2, "common(4,5)", "common(7,5)", "common(5,7)", "common(2,7)", "common(4,2)").due(4, "common(7,4)", "common(4,4)")
            .due(7, "common(7,7)").due(1, "common(1,1)").due(3, "common(3,6)");
        Doc.promise(29, NO_SHEET).noSuch("common(0,0)").after("draw(-1)").noSuch("common(1,0)", "common(0,1)", "common(1,1)",
            "common(-1,0)", "common(0,-1)", "common(-1,-1)").due(0, "common(0,0)");
    }
}
