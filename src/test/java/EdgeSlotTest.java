/** The boundary cases of the promises 32 and 33, a run for each argument, result and exception. */
public final class EdgeSlotTest {
    public static void main(String[] args) {
        save();
        restore();
        Doc.allTested(32, 33);
        Run.end("EdgeSlotTest");
    }

    private static void save() {
        Doc.promise(32, "`slot`: 0 or 1").thereAre(2, "save(#)").due(0, "restore(0)", "restore(1)");
        Doc.promise(32, "Returns today.").due(0, "save(0)").times(10, "run(30)").due(300, "save(1)", "save(0)").due(9, "undo()")
            .due(270, "save(0)").due(300, "restore(1)").due(270, "restore(0)");
        Doc.promise(32, "Throws `IndexOutOfBoundsException` if there is no such save slot").noSuch("save(-1)", "save(2)", "save(32)",
            "save(-2147483648)", "save(2147483647)").notNow("restore(0)", "restore(1)");
        Doc.promise(32, "Stores the present state in a save slot.").due(0, "save(0)").after("draw(-1)").due(0, "save(0)")
            .after("draw(-1)").due(0, "save(1)").after("draw(-1)").due(2, "undo()").due(1, "undo()").due(0, "restore(0)")
            .due(1, "about(0)").due(0, "restore(1)").due(2, "about(0)").notNow("undo()");
        Doc.promise(32, "Stores the present state in a save slot.").times(3, "draw(-1)").after("draw(2)", "set(1,0)", "run(2)",
                "revise(3,8)", "print(3,2)", "stamp(0,1)", "build(0,5)", "revise(3,32)", "save(1)", "undo()", "undo()", "undo()",
                "undo()", "undo()", "draw(0)", "run(4)", "print(1,1)", "build(0,9)", "print(0,3)", "save(0)")
            .due(2, "restore(1)").due(3, "printed(0,0)").due(1, "printed(0,1)", "work(0,3)", "work(0,4)", "sheet(2,2)")
            .due(2, "printed(0,2)", "printed(0,3)", "printed(0,4)", "work(0,0)", "sheet(3,0)", "sheet(3,1)", "field(3,5)")
            .due(5, "printed(0,6)", "work(0,2)").due(3, "work(0,1)").due(4, "about(0)").due(8, "drawnIn(3,1)")
            .due(6, "restore(0)", "printed(0,3)").due(1, "printed(0,0)", "printed(0,2)", "work(0,0)", "work(0,1)").due(0, "printed(0,1)",
                "printed(0,4)", "work(0,3)", "work(0,4)", "sheet(2,2)", "sheet(3,1)", "sheet(4,0)", "printed(1,0)")
            .due(-1, "printed(0,6)").due(9, "work(0,2)").due(3, "printed(1,2)").due(4095, "drawnIn(3,0)");
        Run full = Doc.promise(32, "Stores the present state in a save slot.").after("set(1,0)", "set(0,0)", "set(2,99)")
            .times(10, "draw(-1)").times(24, "print(9,3)").times(30, "build(23,11)").after("revise(9,2048)", "run(30)", "save(1)");
        full.text("draw").notNow("restore(0)").after("back(0)", "mend(29)", "run(1)").due(30, "restore(1)").due(10, "about(0)")
            .due(24, "about(1)", "about(2)", "about(3)", "about(4)").due(30, "about(5)", "about(6)", "about(8)").due(0, "about(7)")
            .due(24 * 99 * 30, "about(9)").due(0, "setting(0)", "setting(1)", "work(29,3)").due(99, "setting(2)")
            .due(4, "clearText()");
    }

    private static void restore() {
        Doc.promise(33, "`slot`: 0 or 1").after("save(0)", "save(1)").thereAre(2, "restore(#)");
        Doc.promise(33, "Returns today then.").after("save(0)", "run(30)", "save(1)", "run(30)").due(0, "restore(0)")
            .due(0, "about(8)").due(30, "restore(1)").due(30, "about(8)", "restore(1)").due(0, "restore(0)");
        Doc.promise(33, "Throws `IndexOutOfBoundsException` if there is no such save slot").noSuch("restore(-1)", "restore(2)",
            "restore(-2147483648)", "restore(2147483647)").after("save(0)", "save(1)").noSuch("restore(-1)", "restore(2)");
        Doc.promise(33, "Throws `IllegalStateException` if nothing has been saved in it since the last load")
            .notNow("restore(0)", "restore(1)").after("save(1)").notNow("restore(0)").due(0, "restore(1)").after("save(0)")
            .due(0, "restore(0)", "restore(1)").text("run3").after("load()").notNow("restore(0)", "restore(1)").after("save(0)")
            .notNow("restore(1)").due(3, "restore(0)").text("run").notNow("load()").due(3, "restore(0)");
        Doc.promise(33, "Replaces the state by the one in a save slot, and forgets all remembered states.").times(20, "run(1)")
            .after("save(0)").due(13, "undo()").after("run(9)").due(20, "restore(0)").notNow("undo()").after("run(1)")
            .due(0, "undo()").due(20, "about(8)").notNow("undo()").times(14, "run(1)").due(13, "undo()");
        Doc.promise(33, "The save slot keeps it.").after("draw(-1)", "save(0)", "draw(-1)", "save(1)").due(0, "restore(0)", "restore(0)")
            .after("draw(-1)", "draw(-1)", "revise(0,1)", "run(1)").due(0, "restore(0)").due(1, "about(0)").due(0, "sheet(0,1)")
            .after("draw(-1)", "undo()").due(0, "restore(1)").due(2, "about(0)").due(0, "restore(0)").due(1, "about(0)");
    }
}
