/** The boundary cases of the promises 1 and 6 to 12, a run for each argument, result and exception. */
public final class EdgeLookTest {
    private static final String NO_SHEET = "Throws `IndexOutOfBoundsException` if there is no such sheet";

    public static void main(String[] args) {
        newObject();
        aboutSheetsAndPrints();
        aboutWorksAndDays();
        aboutRange();
        sheetInTheTree();
        sheetNumbers();
        sheetRange();
        field();
        drawnIn();
        printedFacts();
        printedStates();
        printedRange();
        work();
        setting();
        Doc.allTested(6, 12);
        Run.end("EdgeLookTest");
    }

    /** A run that has drawn ten sheets, each one under the one before. */
    private static Run chain(Run run) {
        for (int s = 0; s < 10; s++) {
            run.after("draw(" + (s - 1) + ")");
        }
        return run;
    }

    /** A run that has drawn one sheet, and made 24 prints of it, six at each site, that need no stamp. */
    private static Run allPrints(Run run) {
        run.after("draw(-1)", "set(1,0)");
        for (int p = 0; p < 24; p++) {
            run.after("print(0," + p % 4 + ")");
        }
        return run;
    }

    private static Run allWorks(Run run) {
        run.after("draw(-1)", "set(1,0)", "print(0,0)");
        for (int w = 0; w < 30; w++) {
            run.after("build(0," + w % 12 + ")");
        }
        return run;
    }

    private static void newObject() {
        Doc.promise(1, "Creates an office without sheets.").due(0, "about(0)", "about(1)", "about(5)", "about(8)", "about(9)")
            .noSuch("sheet(0,0)", "field(0,0)", "drawnIn(0,0)", "printed(0,0)", "work(0,0)", "revise(0,1)", "check(0)",
                "print(0,0)", "stamp(0,0)", "back(0)", "build(0,0)", "mend(0)", "truePrint(0,0)", "ifRevised(0,1,0)", "common(0,0)")
            .notNow("undo()", "restore(0)", "restore(1)").due(0, "clearText()", "draw(-1)");
    }

    private static void aboutSheetsAndPrints() {
        Run sheets = Doc.promise(6, "0: the sheets").due(0, "about(0)");
        chain(sheets).due(10, "about(0)").notNow("draw(0)").due(10, "about(0)").due(9, "undo()").due(9, "about(0)");
        Run prints = Doc.promise(6, "1: the prints").due(0, "about(1)");
        allPrints(prints).due(24, "about(1)").after("back(0)").notNow("print(0,0)").due(24, "about(1)");
        Run out = allPrints(Doc.promise(6, "2: those that are out").due(0, "about(2)")).due(24, "about(2)").after("back(0)",
            "back(23)").due(22, "about(2)").after("revise(0,1)").due(22, "about(2)");
        for (int p = 1; p < 23; p++) {
            out.after("back(" + p + ")").due(22 - p, "about(2)");
        }
        Run recalled = allPrints(Doc.promise(6, "3: those that are out and recalled").due(0, "about(3)")).after("back(0)")
            .due(0, "about(3)").after("revise(0,1)").due(23, "about(3)").after("back(23)").due(22, "about(3)");
        recalled.notNow("print(0,0)").after("revise(0,1)").due(22, "about(3)");
        Run overdue = allPrints(Doc.promise(6, "4: the overdue ones").due(0, "about(4)")).after("revise(0,1)", "run(3)")
            .due(0, "about(4)").after("run(1)").due(24, "about(4)").after("back(5)").due(23, "about(4)");
        overdue.after("run(30)").due(23, "about(4)");
        Run toCheck = Doc.promise(6, "7: the sheets that are to be checked").due(0, "about(7)");
        chain(toCheck).due(0, "about(7)").after("revise(0,1)").due(0, "about(7)").after("revise(9,1)").due(9, "about(7)")
            .after("check(4)").due(8, "about(7)");
    }

    private static void aboutWorksAndDays() {
        allWorks(Doc.promise(6, "5: the works").due(0, "about(5)")).due(30, "about(5)").notNow("build(0,0)").due(30, "about(5)")
            .after("back(0)").due(30, "about(5)");
        Run wrong = allWorks(Doc.promise(6, "6: the wrong ones").due(0, "about(6)")).due(0, "about(6)").after("revise(0,2048)")
            .due(2, "about(6)").after("revise(0,4095)").due(30, "about(6)");
        for (int w = 29; w >= 0; w--) {
            wrong.after("mend(" + w + ")").due(w, "about(6)");
        }
        Doc.promise(6, "8: today").due(0, "about(8)").after("run(1)").due(1, "about(8)").after("run(30)").due(31, "about(8)")
            .times(200, "run(30)").due(6031, "about(8)");
        Run cost = allPrints(Doc.promise(6, "9: what overdue prints cost so far").due(0, "about(9)")).after("set(0,0)", "set(2,99)")
            .due(0, "about(9)").after("revise(0,1)").due(0, "about(9)").after("run(1)").due(2376, "about(9)");
        cost.after("back(0)", "set(2,0)", "run(5)").due(2376, "about(9)").after("set(2,99)").times(400, "run(30)")
            .due(2376 + 23 * 99 * 30 * 400, "about(9)");
    }

    private static void aboutRange() {
        Doc.promise(6, "Throws `IllegalArgumentException` if what is not 0 to 9").range(0, 9, "about(#)");
    }

    private static void sheetInTheTree() {
        chain(Doc.promise(7, "0: its parent, NONE without one")).due(-1, "sheet(0,0)").due(0, "sheet(1,0)").due(8, "sheet(9,0)");
        chain(Doc.promise(7, "3: the sheets under it, those under these, and so on, together")).due(9, "sheet(0,3)")
            .due(1, "sheet(8,3)").due(0, "sheet(9,3)");
        chain(Doc.promise(7, "4: how many sheets are above it")).due(0, "sheet(0,4)").due(1, "sheet(1,4)").due(9, "sheet(9,4)");
        chain(Doc.promise(7, "6: the greatest number of sheets one under the other from it down, itself included"))
            .due(10, "sheet(0,6)").due(2, "sheet(8,6)").due(1, "sheet(9,6)");
        Run broad = Doc.promise(7, "6: the greatest number of sheets one under the other from it down, itself included")
            .after("draw(-1)").due(1, "sheet(0,6)").times(8, "draw(0)").due(2, "sheet(0,6)").due(1, "sheet(8,6)");
        broad.due(8, "sheet(0,3)").after("draw(4)").due(3, "sheet(0,6)").due(2, "sheet(4,6)").due(1, "sheet(3,6)", "sheet(9,6)")
            .due(9, "sheet(0,3)").due(1, "sheet(4,3)").due(0, "sheet(3,3)").due(2, "sheet(9,4)");
        Run alone = Doc.promise(7, "3: the sheets under it, those under these, and so on, together").times(10, "draw(-1)");
        alone.due(0, "sheet(0,3)", "sheet(9,3)", "sheet(0,4)", "sheet(9,4)").due(1, "sheet(0,6)", "sheet(9,6)");
    }

    private static void sheetNumbers() {
        Doc.promise(7, "1: its revision").after("draw(-1)").due(0, "sheet(0,1)").times(99, "revise(0,1)").due(99, "sheet(0,1)")
            .notNow("revise(0,1)").due(99, "sheet(0,1)");
        chain(Doc.promise(7, "2: 1 if it is to be checked, otherwise 0")).due(0, "sheet(0,2)").after("revise(1,1)")
            .due(1, "sheet(0,2)").due(0, "sheet(1,2)", "sheet(2,2)").after("check(0)").due(0, "sheet(0,2)")
            .after("revise(9,1)").due(1, "sheet(0,2)", "sheet(8,2)").due(0, "sheet(9,2)");
        allPrints(Doc.promise(7, "5: its prints that are out")).due(24, "sheet(0,5)").after("draw(-1)").due(0, "sheet(1,5)")
            .after("back(0)", "revise(0,1)").due(23, "sheet(0,5)").after("back(23)").due(22, "sheet(0,5)");
        allWorks(Doc.promise(7, "7: the works of it that are wrong")).due(0, "sheet(0,7)").after("draw(0)", "revise(1,4095)")
            .due(0, "sheet(0,7)", "sheet(1,7)").after("revise(0,4095)").due(30, "sheet(0,7)").due(0, "sheet(1,7)")
            .after("mend(0)", "mend(29)").due(28, "sheet(0,7)");
    }

    private static void sheetRange() {
        Doc.promise(7, "`s`: sheet").noSuch("sheet(0,0)").after("draw(-1)").thereAre(1, "sheet(#,1)").after("draw(-1)")
            .thereAre(2, "sheet(#,1)");
        chain(Doc.promise(7, NO_SHEET)).thereAre(10, "sheet(#,7)").thereAre(10, "sheet(#,0)");
        Doc.promise(7, "Throws `IllegalArgumentException` if what is not 0 to 7").after("draw(-1)").range(0, 7, "sheet(0,#)")
            .noSuch("sheet(1,8)", "sheet(-1,-1)");
    }

    private static void field() {
        chain(Doc.promise(8, "`s`: sheet")).thereAre(10, "field(#,0)").after("undo()").thereAre(9, "field(#,11)");
        Doc.promise(8, "`f`: field").after("draw(-1)").thereAre(12, "field(0,#)");
        Doc.promise(8, "Returns the revision in which a field was drawn last.").after("draw(-1)").due(0, "field(0,0)", "field(0,11)")
            .times(98, "revise(0,1)").after("revise(0,2048)").due(98, "field(0,0)").due(99, "field(0,11)").due(0, "field(0,1)");
        Doc.promise(8, "Throws `IndexOutOfBoundsException` if there is no such sheet or field").noSuch("field(0,0)", "field(0,12)")
            .after("draw(-1)").thereAre(1, "field(#,0)").thereAre(12, "field(0,#)").noSuch("field(1,12)");
    }

    private static void drawnIn() {
        chain(Doc.promise(9, "`s`: sheet")).thereAre(10, "drawnIn(#,0)");
        Doc.promise(9, "`revision`: 0 or more").after("draw(-1)").range(0, 0, "drawnIn(0,#)").after("revise(0,1)")
            .range(0, 1, "drawnIn(0,#)");
        Doc.promise(9, "Returns these fields, as a set.").after("draw(-1)").due(4095, "drawnIn(0,0)").after("revise(0,1)")
            .due(1, "drawnIn(0,1)").due(4094, "drawnIn(0,0)").after("revise(0,2048)").due(2048, "drawnIn(0,2)")
            .after("revise(0,4095)").due(4095, "drawnIn(0,3)").due(0, "drawnIn(0,0)", "drawnIn(0,1)", "drawnIn(0,2)");
        Doc.promise(9, NO_SHEET).noSuch("drawnIn(0,0)", "drawnIn(0,-1)").after("draw(-1)").noSuch("drawnIn(1,0)", "drawnIn(1,1)",
            "drawnIn(-1,0)").due(4095, "drawnIn(0,0)");
        Doc.promise(9, "Throws `IllegalArgumentException` if the sheet has had no such revision").after("draw(-1)", "draw(-1)")
            .badArgument("drawnIn(0,1)", "drawnIn(0,-1)").times(99, "revise(0,1)").range(0, 99, "drawnIn(0,#)")
            .range(0, 0, "drawnIn(1,#)").noSuch("drawnIn(2,-1)");
    }

    private static void printedFacts() {
        chain(Doc.promise(10, "0: its sheet")).after("print(0,0)", "print(9,0)").due(0, "printed(0,0)").due(9, "printed(1,0)");
        Doc.promise(10, "1: its revision").after("draw(-1)", "print(0,0)").times(99, "revise(0,1)").after("print(0,0)")
            .due(0, "printed(0,1)").due(99, "printed(1,1)");
        Doc.promise(10, "2: its site").after("draw(-1)", "print(0,0)", "print(0,3)").due(0, "printed(0,2)").due(3, "printed(1,2)");
        Doc.promise(10, "3: the day on which it was made").after("draw(-1)", "print(0,0)", "run(30)", "print(0,0)", "run(1)")
            .due(0, "printed(0,3)").due(30, "printed(1,3)");
        Doc.promise(10, "4: its stamps, as a set of hands").after("draw(-1)", "print(0,0)", "print(0,0)").due(0, "printed(0,4)")
            .after("stamp(0,0)").due(1, "printed(0,4)").after("stamp(0,0)").due(1, "printed(0,4)").after("stamp(0,2)")
            .due(5, "printed(0,4)").after("stamp(0,1)", "back(0)").due(7, "printed(0,4)").due(0, "printed(1,4)");
        Doc.promise(10, "8: its fields that are not drawn anew since, as a set").after("draw(-1)", "draw(-1)", "revise(0,4095)",
                "print(0,0)", "revise(1,4095)")
            .due(4095, "printed(0,8)").after("revise(0,1)").due(4094, "printed(0,8)").after("revise(0,2048)")
            .due(2046, "printed(0,8)").after("print(0,0)").due(4095, "printed(1,8)").after("back(0)", "revise(0,4095)")
            .due(0, "printed(0,8)", "printed(1,8)");
        Doc.promise(10, "8: its fields that are not drawn anew since, as a set").after("draw(-1)", "print(0,0)")
            .due(4095, "printed(0,8)").after("revise(0,1)", "print(0,0)").due(4094, "printed(0,8)").due(4095, "printed(1,8)")
            .after("revise(0,2048)").due(2046, "printed(0,8)").due(2047, "printed(1,8)").after("revise(0,4095)")
            .due(0, "printed(0,8)", "printed(1,8)");
    }

    private static void printedStates() {
        allPrints(Doc.promise(10, "5: 1 if it is out, otherwise 0")).due(1, "printed(0,5)", "printed(23,5)").after("back(23)")
            .due(0, "printed(23,5)").due(1, "printed(22,5)").after("revise(0,1)").due(1, "printed(0,5)").after("back(0)")
            .due(0, "printed(0,5)");
        Doc.promise(10, "6: the day on which it is due, NONE if it was never recalled").after("draw(-1)", "print(0,0)",
                "print(0,0)", "back(1)", "set(0,0)")
            .due(-1, "printed(0,6)", "printed(1,6)").after("revise(0,1)").due(0, "printed(0,6)").due(-1, "printed(1,6)")
            .after("back(0)", "revise(0,1)").due(0, "printed(0,6)").due(-1, "printed(1,6)");
        Doc.promise(10, "7: 1 if it may be built by, otherwise 0").after("draw(-1)", "draw(0)", "print(0,0)").due(0, "printed(0,7)")
            .after("stamp(0,2)").due(1, "printed(0,7)").after("set(1,2)").due(0, "printed(0,7)").after("stamp(0,0)")
            .due(1, "printed(0,7)").after("revise(1,1)").due(0, "printed(0,7)").after("check(0)").due(1, "printed(0,7)")
            .after("revise(0,1)").due(0, "printed(0,7)");
    }

    private static void printedRange() {
        Doc.promise(10, "`p`: print").after("draw(-1)").noSuch("printed(0,0)").after("print(0,0)").thereAre(1, "printed(#,0)");
        allPrints(Doc.promise(10, "Throws `IndexOutOfBoundsException` if there is no such print")).thereAre(24, "printed(#,0)")
            .noSuch("printed(24,9)", "printed(-1,-1)").after("back(23)").thereAre(24, "printed(#,8)");
        Doc.promise(10, "Throws `IllegalArgumentException` if what is not 0 to 8").after("draw(-1)", "print(0,0)")
            .range(0, 8, "printed(0,#)");
    }

    private static void work() {
        chain(Doc.promise(11, "0: its site")).after("set(1,0)", "print(9,3)", "print(0,0)", "build(0,11)", "build(1,0)")
            .due(3, "work(0,0)").due(0, "work(1,0)");
        chain(Doc.promise(11, "1: its sheet")).after("set(1,0)", "print(9,3)", "print(0,0)", "build(0,11)", "build(1,0)")
            .due(9, "work(0,1)").due(0, "work(1,1)");
        chain(Doc.promise(11, "2: its field")).after("set(1,0)", "print(9,3)", "print(0,0)", "build(0,11)", "build(1,0)")
            .due(11, "work(0,2)").due(0, "work(1,2)");
        Doc.promise(11, "3: its revision").after("set(1,0)", "draw(-1)", "print(0,0)", "build(0,0)").due(0, "work(0,3)")
            .times(99, "revise(0,1)").due(0, "work(0,3)").after("mend(0)").due(99, "work(0,3)").after("print(0,0)", "build(1,0)")
            .due(99, "work(1,3)");
        Doc.promise(11, "4: 1 if it is wrong, otherwise 0").after("set(1,0)", "draw(-1)", "print(0,0)", "build(0,0)", "build(0,11)")
            .due(0, "work(0,4)", "work(1,4)").after("revise(0,2048)").due(0, "work(0,4)").due(1, "work(1,4)").after("mend(1)")
            .due(0, "work(1,4)");
        Doc.promise(11, "`w`: work").noSuch("work(0,0)").after("set(1,0)", "draw(-1)", "print(0,0)").noSuch("work(0,0)")
            .after("build(0,0)").thereAre(1, "work(#,0)");
        allWorks(Doc.promise(11, "Throws `IndexOutOfBoundsException` if there is no such work")).thereAre(30, "work(#,4)")
            .noSuch("work(30,5)", "work(-1,-1)");
        allWorks(Doc.promise(11, "Throws `IllegalArgumentException` if what is not 0 to 4")).range(0, 4, "work(29,#)");
    }

    private static void setting() {
        Doc.promise(12, "`what`: 0 to 2").due(3, "setting(0)").due(1, "setting(1)").due(5, "setting(2)").range(0, 2, "setting(#)");
        Doc.promise(12, "Throws `IllegalArgumentException` if what is out of range").badArgument("setting(-1)", "setting(3)",
            "setting(2147483647)", "setting(-2147483648)").due(5, "setting(2)");
        Doc.promise(12, "Returns that setting.").after("set(0,0)", "set(1,0)", "set(2,0)").due(0, "setting(0)", "setting(1)",
            "setting(2)").after("set(0,20)", "set(1,3)", "set(2,99)").due(20, "setting(0)").due(3, "setting(1)").due(99, "setting(2)");
    }
}
