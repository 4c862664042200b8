/** Promises 32 and 33: save, restore. */
public final class SlotTest {
    public static void main(String[] args) {
        save();
        restore();
        slotsStay();
        wholeStates();
        Run.end("SlotTest");
    }

    private static void save() {
        new Run("promise 32").noSuch("save(2)", "save(-1)", "save(2147483647)").due(0, "save(0)").after("run(7)")
            .due(7, "save(1)").due(7, "save(0)").due(0, "undo()").notNow("undo()").due(7, "restore(0)");
    }

    private static void restore() {
        new Run("promise 33").noSuch("restore(2)", "restore(-1)").notNow("restore(0)", "restore(1)")
            .after("draw(-1)", "draw(0)", "set(1,0)", "set(0,9)", "set(2,8)", "print(1,2)", "build(0,4)", "run(3)",
                "revise(1,16)", "run(10)", "save(1)")
            .notNow("restore(0)").noSuch("restore(2)")
            .after("draw(-1)", "back(0)", "check(0)", "mend(0)", "set(0,1)", "set(1,1)", "set(2,1)", "run(30)", "print(2,0)")
            .due(13, "restore(1)").notNow("undo()").due(2, "about(0)").due(1, "about(1)", "about(2)", "about(3)", "about(4)",
                "about(5)", "about(6)", "about(7)").due(13, "about(8)").due(8, "about(9)").due(9, "setting(0)")
            .due(0, "setting(1)").due(8, "setting(2)").due(1, "field(1,4)", "sheet(1,1)").due(12, "printed(0,6)");
    }

    /** Two states that differ in every number of a sheet, a print and a work. */
    private static void wholeStates() {
        Run run = new Run("promise 33, whole states").after("set(1,0)", "draw(-1)", "draw(-1)", "draw(1)", "save(0)",
            "run(3)", "revise(2,6)", "check(1)", "print(2,3)", "stamp(0,1)", "build(0,7)", "revise(2,128)", "save(1)");
        run.due(0, "restore(0)").after("print(0,1)", "build(0,4)").due(0, "printed(0,0)", "printed(0,1)", "printed(0,3)",
            "printed(0,4)", "work(0,1)", "work(0,3)").due(1, "printed(0,2)", "work(0,0)").due(4, "work(0,2)")
            .due(-1, "printed(0,6)").due(0, "save(0)");
        run.due(3, "restore(1)").due(2, "printed(0,0)", "work(0,1)", "printed(0,4)", "sheet(2,1)").due(1, "printed(0,1)",
            "work(0,3)", "work(0,4)", "sheet(2,0)").due(3, "printed(0,2)", "work(0,0)", "printed(0,3)").due(7, "work(0,2)")
            .due(6, "printed(0,6)", "drawnIn(2,1)").due(128, "drawnIn(2,2)");
        run.due(0, "restore(0)").due(0, "printed(0,0)", "work(0,1)", "sheet(2,1)").due(-1, "printed(0,6)")
            .due(4, "work(0,2)").due(4095, "drawnIn(2,0)");
    }

    private static void slotsStay() {
        new Run("promise 33, slots").after("save(0)", "run(1)", "save(1)", "run(1)").due(0, "restore(0)").due(0, "restore(0)")
            .after("run(5)", "draw(-1)").due(1, "undo()").due(0, "undo()").due(1, "restore(1)").due(0, "about(0)")
            .after("run(2)").due(1, "restore(1)").notNow("undo()").after("draw(-1)").due(0, "restore(0)").due(0, "about(0)")
            .text("run3").due(0, "load()").notNow("restore(0)", "restore(1)").due(3, "save(1)").notNow("restore(0)")
            .due(3, "restore(1)").due(4, "clearText()");
    }
}
