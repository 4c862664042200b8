/** The boundary cases of the promises 13 to 23, a run for each argument, result and exception. */
public final class EdgeActionTest {
    private static final String NO_SHEET = "Throws `IndexOutOfBoundsException` if there is no such sheet";

    public static void main(String[] args) {
        draw();
        revise();
        reviseRefused();
        check();
        print();
        stamp();
        back();
        build();
        mend();
        run();
        set();
        undo();
        Doc.allTested(13, 23);
        Run.end("EdgeActionTest");
    }

    /** A run with ten sheets, each one under the one before, whose prints need no stamp. */
    private static Run chain(Run run) {
        run.after("set(1,0)");
        for (int s = 0; s < 10; s++) {
            run.after("draw(" + (s - 1) + ")");
        }
        return run;
    }

    private static void draw() {
        Doc.promise(13, "`parent`: a sheet, or NONE").noSuch("draw(0)", "draw(-2)").due(0, "draw(-1)").due(1, "draw(0)")
            .noSuch("draw(2)", "draw(-2)", "draw(2147483647)", "draw(-2147483648)").due(2, "draw(1)").due(3, "draw(-1)")
            .due(-1, "sheet(3,0)").due(1, "sheet(2,0)");
        Run numbers = Doc.promise(13, "Returns its number.");
        for (int s = 0; s < 10; s++) {
            numbers.due(s, "draw(" + (s == 5 ? -1 : s - 1) + ")");
        }
        numbers.due(9, "undo()").due(9, "draw(8)");
        Doc.promise(13, "Throws `IndexOutOfBoundsException` if there is no such sheet").noSuch("draw(0)", "draw(-2)").after("draw(-1)")
            .noSuch("draw(1)", "draw(-2)").due(1, "about(0)").due(0, "undo()").noSuch("draw(0)");
        chain(Doc.promise(13, "Throws `IllegalStateException` if there are 10")).notNow("draw(-1)", "draw(0)", "draw(9)")
            .due(10, "about(0)").due(10, "undo()").due(9, "about(0)", "draw(0)").notNow("draw(0)");
        chain(Doc.promise(13, "Throws `IndexOutOfBoundsException` if there is no such sheet")).noSuch("draw(10)", "draw(-2)");
    }

    private static void revise() {
        chain(Doc.promise(14, "`s`: sheet")).thereAre(10, "revise(#,1)").due(1, "sheet(0,1)", "sheet(9,1)").due(0, "sheet(1,1)");
        Doc.promise(14, "`fields`: 1 to 4095: the cloud, as a set").after("draw(-1)").range(1, 4095, "revise(0,#)")
            .due(2, "sheet(0,1)").due(4095, "drawnIn(0,2)").due(0, "revise(0,2048)").due(2048, "drawnIn(0,3)");
        Run none = Doc.promise(14, "Returns the prints that are recalled by it.").after("draw(-1)", "draw(-1)").due(0, "revise(0,1)");
        none.times(23, "print(0,0)").after("print(1,0)").due(23, "revise(0,1)").due(0, "revise(0,1)").due(1, "revise(1,1)");
        Doc.promise(14, "Returns the prints that are recalled by it.").after("draw(-1)").times(24, "print(0,3)")
            .after("back(0)", "back(23)").due(22, "revise(0,4095)").due(0, "revise(0,4095)");
    }

    private static void reviseRefused() {
        Doc.promise(14, NO_SHEET).noSuch("revise(0,1)", "revise(0,0)").after("draw(-1)").noSuch("revise(1,1)", "revise(-1,1)",
            "revise(1,4096)").due(0, "revise(0,1)");
        Doc.promise(14, "Throws `IllegalArgumentException` if fields is out of range").after("draw(-1)").badArgument("revise(0,0)",
            "revise(0,4096)", "revise(0,-1)", "revise(0,8191)", "revise(0,-2147483648)").due(0, "sheet(0,1)").due(0, "undo()");
        Doc.promise(14, "Throws `IllegalStateException` if its revision is 99").after("draw(-1)", "draw(-1)").times(98, "revise(0,1)")
            .due(0, "revise(0,1)").due(99, "sheet(0,1)").notNow("revise(0,1)", "revise(0,4095)").due(99, "sheet(0,1)", "field(0,0)")
            .badArgument("revise(0,0)", "revise(0,4096)").due(0, "revise(1,1)").due(13, "undo()").due(12, "undo()")
            .due(98, "sheet(0,1)").due(0, "revise(0,1)").notNow("revise(0,1)");
    }

    private static void check() {
        chain(Doc.promise(15, "`s`: sheet")).after("revise(9,1)").thereAre(10, "sheet(#,2)").noSuch("check(10)", "check(-1)",
            "check(-2147483648)", "check(2147483647)", "check(32)").due(8, "check(0)").due(7, "check(8)").notNow("check(9)");
        Run down = chain(Doc.promise(15, "Returns the sheets that are to be checked then.")).after("revise(9,1)");
        for (int s = 8; s >= 0; s--) {
            down.due(s, "check(" + s + ")").due(s, "about(7)");
        }
        Doc.promise(15, "Throws `IndexOutOfBoundsException` if there is no such sheet").noSuch("check(0)").after("draw(-1)", "draw(0)",
            "revise(1,1)").noSuch("check(2)", "check(-1)").due(0, "check(0)");
        Doc.promise(15, "Throws `IllegalStateException` if it is not to be checked").after("draw(-1)", "draw(0)", "draw(1)")
            .notNow("check(0)").after("revise(1,1)").notNow("check(1)", "check(2)").due(0, "check(0)").notNow("check(0)")
            .after("revise(2,1)", "revise(1,1)").notNow("check(1)").due(0, "check(0)");
    }

    private static void print() {
        chain(Doc.promise(16, "`s`: sheet")).thereAre(10, "print(#,0)").due(0, "printed(0,0)").due(9, "printed(1,0)");
        Doc.promise(16, "`site`: 0 to 3").after("draw(-1)").thereAre(4, "print(0,#)").due(0, "printed(0,2)").due(3, "printed(1,2)")
            .due(2, "about(1)");
        Run numbers = Doc.promise(16, "Returns its number.").after("draw(-1)");
        for (int p = 0; p < 24; p++) {
            numbers.due(p, "print(0," + p % 4 + ")");
            if (p % 5 == 0) {
                numbers.after("back(" + p + ")");
            }
        }
        Doc.promise(16, "Throws `IndexOutOfBoundsException` if there is no such sheet or site").noSuch("print(0,0)").after("draw(-1)")
            .noSuch("print(1,0)", "print(-1,0)", "print(0,4)", "print(0,-1)", "print(1,4)").due(0, "about(1)").due(0, "print(0,0)");
        Doc.promise(16, "Throws `IllegalStateException` if there are 24 prints").after("draw(-1)").times(23, "print(0,0)")
            .due(23, "print(0,3)").notNow("print(0,0)", "print(0,3)").noSuch("print(1,0)", "print(0,4)").after("back(0)")
            .notNow("print(0,0)").due(13, "undo()").due(12, "undo()").due(23, "print(0,1)").notNow("print(0,0)").due(24, "about(1)");
    }

    private static void stamp() {
        Doc.promise(17, "`p`: print").after("draw(-1)").noSuch("stamp(0,0)").after("print(0,0)").thereAre(1, "stamp(#,0)")
            .times(23, "print(0,0)").thereAre(24, "stamp(#,2)").due(5, "printed(0,4)").due(4, "printed(23,4)");
        Doc.promise(17, "`hand`: 0 to 2").after("draw(-1)", "print(0,0)").thereAre(3, "stamp(0,#)").due(5, "printed(0,4)");
        Doc.promise(17, "Returns how many hands have stamped it then.").after("draw(-1)", "print(0,0)", "print(0,0)")
            .due(1, "stamp(0,2)").due(1, "stamp(0,2)").due(2, "stamp(0,0)").due(2, "stamp(0,2)").due(3, "stamp(0,1)")
            .due(3, "stamp(0,0)").due(1, "stamp(1,0)");
        Doc.promise(17, "Throws `IndexOutOfBoundsException` if there is no such print or hand").after("draw(-1)", "print(0,0)")
            .noSuch("stamp(1,0)", "stamp(-1,0)", "stamp(0,3)", "stamp(0,-1)", "stamp(0,32)").after("back(0)").noSuch("stamp(0,3)")
            .due(0, "printed(0,4)");
        Doc.promise(17, "Throws `IllegalStateException` if it is not out, or recalled").after("draw(-1)", "set(0,20)", "print(0,0)",
                "print(0,0)", "stamp(1,1)", "back(0)")
            .notNow("stamp(0,0)").due(2, "stamp(1,0)").after("revise(0,1)").notNow("stamp(1,2)", "stamp(1,0)", "stamp(0,0)")
            .due(3, "printed(1,4)").due(0, "printed(0,4)").after("back(1)").notNow("stamp(1,2)");
    }

    private static void back() {
        Doc.promise(18, "`p`: print").after("draw(-1)").noSuch("back(0)").times(24, "print(0,0)").thereAre(24, "back(#)")
            .due(22, "about(2)");
        Doc.promise(18, "Returns by how many days it is overdue, 0 if it is not.").after("draw(-1)").times(6, "print(0,0)")
            .due(0, "back(0)").after("revise(0,1)").due(0, "back(1)").after("run(2)").due(0, "back(2)").after("run(1)")
            .due(0, "back(3)").after("run(1)").due(1, "back(4)").after("run(30)").due(31, "back(5)");
        Doc.promise(18, "Throws `IndexOutOfBoundsException` if there is no such print").noSuch("back(0)").after("draw(-1)", "print(0,0)")
            .noSuch("back(1)", "back(-1)").due(1, "about(2)").after("back(0)").noSuch("back(1)", "back(-1)");
        Doc.promise(18, "Throws `IllegalStateException` if it is not out").after("draw(-1)", "print(0,0)", "print(0,0)", "back(0)")
            .notNow("back(0)").after("revise(0,1)", "run(9)").notNow("back(0)").due(6, "back(1)").notNow("back(1)");
    }

    private static void build() {
        Doc.promise(19, "`p`: print").after("draw(-1)", "set(1,0)").noSuch("build(0,0)").times(24, "print(0,0)")
            .thereAre(24, "build(#,0)").due(2, "about(5)");
        Doc.promise(19, "`f`: field").after("draw(-1)", "set(1,0)", "print(0,0)").thereAre(12, "build(0,#)").due(0, "work(0,2)")
            .due(11, "work(1,2)");
        Run numbers = Doc.promise(19, "Returns the number of the work.").after("draw(-1)", "set(1,0)", "print(0,0)", "print(0,3)");
        for (int w = 0; w < 30; w++) {
            numbers.due(w, "build(" + w % 2 + "," + w % 12 + ")");
        }
        Doc.promise(19, "Throws `IndexOutOfBoundsException` if there is no such print or field").after("draw(-1)", "print(0,0)")
            .noSuch("build(1,0)", "build(-1,0)", "build(0,12)", "build(0,-1)").notNow("build(0,0)").due(0, "about(5)");
        String notBuilt = "Throws `IllegalStateException` if it may not be built by, or there are 30 works";
        Doc.promise(19, notBuilt).after("draw(-1)", "draw(0)", "print(0,0)", "print(0,0)", "print(1,0)", "set(1,2)", "stamp(0,0)")
            .notNow("build(0,0)").after("stamp(0,0)").notNow("build(0,0)").after("stamp(0,2)").due(0, "build(0,0)")
            .after("set(1,3)").notNow("build(0,0)").after("set(1,0)").due(1, "build(1,0)").due(2, "build(2,0)")
            .after("back(0)").notNow("build(0,0)").after("revise(1,1)").notNow("build(2,0)", "build(1,0)").after("check(0)")
            .due(3, "build(1,0)").notNow("build(2,0)").after("revise(0,1)").notNow("build(1,0)").due(4, "about(5)");
        Run full = Doc.promise(19, notBuilt).after("draw(-1)", "set(1,0)", "print(0,0)").times(29, "build(0,0)")
            .due(29, "build(0,11)").notNow("build(0,0)", "build(0,11)").noSuch("build(1,0)", "build(0,12)");
        full.due(30, "about(5)").due(13, "undo()").due(29, "about(5)", "build(0,1)").notNow("build(0,1)").due(1, "work(29,2)");
    }

    private static void mend() {
        Run all = Doc.promise(20, "`w`: work").after("draw(-1)", "set(1,0)", "print(0,0)").noSuch("mend(0)").times(30, "build(0,0)");
        all.after("revise(0,1)").thereAre(30, "mend(#)").due(28, "about(6)").notNow("mend(0)", "mend(29)");
        Run down = Doc.promise(20, "Returns the wrong works then.").after("draw(-1)", "set(1,0)", "print(0,0)")
            .times(30, "build(0,7)").after("revise(0,128)");
        for (int w = 0; w < 30; w++) {
            down.due(29 - w, "mend(" + w + ")");
        }
        down.after("revise(0,128)").due(29, "mend(4)");
        Doc.promise(20, "Throws `IndexOutOfBoundsException` if there is no such work").noSuch("mend(0)").after("draw(-1)", "set(1,0)",
            "print(0,0)", "build(0,0)", "revise(0,1)").noSuch("mend(1)", "mend(-1)").due(0, "mend(0)").noSuch("mend(1)");
        Doc.promise(20, "Throws `IllegalStateException` if it is not wrong").after("draw(-1)", "set(1,0)", "print(0,0)", "build(0,0)")
            .notNow("mend(0)").after("revise(0,2)").notNow("mend(0)").after("revise(0,1)").due(0, "mend(0)").notNow("mend(0)")
            .due(2, "work(0,3)").after("revise(0,2)").notNow("mend(0)").due(2, "work(0,3)");
    }

    private static void run() {
        Doc.promise(21, "`n`: 1 to 30").range(1, 30, "run(#)").due(31, "about(8)");
        Doc.promise(21, "Returns what overdue prints cost in them.").due(0, "run(30)").after("draw(-1)", "print(0,0)").due(0, "run(30)")
            .after("revise(0,1)").due(0, "run(3)").due(5, "run(1)").due(150, "run(30)").after("set(2,0)").due(0, "run(30)")
            .after("set(2,99)").due(99, "run(1)").due(29 * 99, "run(29)").after("back(0)").due(0, "run(30)");
        Doc.promise(21, "Returns what overdue prints cost in them.").after("draw(-1)", "print(0,0)", "revise(0,1)").due(135, "run(30)");
        Doc.promise(21, "Returns what overdue prints cost in them.").after("draw(-1)", "print(0,0)", "revise(0,1)", "run(1)")
            .due(0, "run(2)").due(5, "run(1)").due(4, "about(8)");
        Doc.promise(21, "Throws `IllegalArgumentException` if n is out of range").badArgument("run(0)", "run(31)", "run(-1)",
            "run(-2147483648)", "run(2147483647)").due(0, "about(8)").notNow("undo()");
    }

    private static void set() {
        Doc.promise(22, "`what`: 0 to 2").due(3, "set(0,1)").due(5, "set(2,1)").range(0, 2, "set(#,1)");
        Doc.promise(22, "`v`: the new value, in its range").range(0, 20, "set(0,#)").range(0, 3, "set(1,#)").range(0, 99, "set(2,#)")
            .due(20, "setting(0)").due(3, "setting(1)").due(99, "setting(2)");
        Doc.promise(22, "Returns the previous one.").due(3, "set(0,0)").due(0, "set(0,20)").due(20, "set(0,20)").due(1, "set(1,3)")
            .due(3, "set(1,0)").due(0, "set(1,0)").due(5, "set(2,99)").due(99, "set(2,0)").due(0, "set(2,1)");
        Doc.promise(22, "Throws `IllegalArgumentException` if what or v is out of range").badArgument("set(-1,0)", "set(3,0)",
                "set(3,-1)", "set(0,21)", "set(0,-1)", "set(1,4)", "set(1,-1)", "set(2,100)", "set(2,-1)", "set(2,2147483647)")
            .notNow("undo()").due(3, "setting(0)").due(1, "setting(1)").due(5, "setting(2)");
    }

    private static void undo() {
        Run left = Doc.promise(23, "Returns how many states are still remembered.").times(14, "set(2,5)");
        for (int i = 13; i >= 0; i--) {
            left.due(i, "undo()");
        }
        Doc.promise(23, "Returns how many states are still remembered.").times(100, "run(1)").due(13, "undo()").due(12, "undo()")
            .after("run(1)").due(12, "undo()").times(2, "run(1)").due(13, "undo()").due(99, "about(8)").due(12, "undo()");
        Doc.promise(23, "Throws `IllegalStateException` if none is remembered").notNow("undo()").after("draw(-1)").due(0, "undo()")
            .notNow("undo()").times(15, "run(1)").due(13, "undo()").due(12, "undo()").due(11, "undo()").due(10, "undo()")
            .due(9, "undo()").due(8, "undo()").due(7, "undo()").due(6, "undo()").due(5, "undo()").due(4, "undo()").due(3, "undo()")
            .due(2, "undo()").due(1, "undo()").due(0, "undo()").notNow("undo()", "undo()").due(1, "about(8)").after("save(0)")
            .notNow("undo()").after("restore(0)").notNow("undo()").text("draw").after("load()").notNow("undo()");
    }
}
