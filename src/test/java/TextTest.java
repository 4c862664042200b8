/** Promises 1 to 5: a new object, append, clearText, errorPosition, load. */
public final class TextTest {
    public static void main(String[] args) {
        newObject();
        append();
        clearText();
        errorPositionOfWords();
        errorPositionOfNumbers();
        errorPositionOfFields();
        errorPositionOfLongTexts();
        loadDoesTheOrders();
        loadLeavesOut();
        loadMakesNew();
        loadRefused();
        Run.end("TextTest");
    }

    private static void newObject() {
        new Run("promise 1").due(0, "clearText()", "about(0)", "about(1)", "about(2)", "about(3)", "about(4)",
                "about(5)", "about(6)", "about(7)", "about(8)", "about(9)", "worst()", "coming(30)")
            .due(3, "setting(0)").due(1, "setting(1)").due(5, "setting(2)")
            .due(-1, "fetch(0)").due(0, "errorPosition()")
            .notNow("undo()", "restore(0)", "restore(1)", "load()")
            .noSuch("sheet(0,0)", "printed(0,0)", "work(0,0)", "field(0,0)");
    }

    private static void append() {
        Run run = new Run("promise 2").badArgument("append(-1)", "append(256)", "append(-2147483648)")
            .due(1, "append(0)").due(2, "append(255)");
        for (int i = 3; i <= 120; i++) {
            run.due(i, "append(59)");
        }
        run.notNow("append(0)", "append(255)").badArgument("append(-1)", "append(256)")
            .due(120, "clearText()").due(1, "append(100)");
    }

    private static void clearText() {
        new Run("promise 3").due(0, "clearText()").text("draw").due(4, "clearText()").due(0, "clearText()")
            .due(0, "errorPosition()").text("draw").due(-1, "errorPosition()")
            .due(0, "load()").due(4, "clearText()").due(1, "about(0)").notNow("undo()");
    }

    private static void error(String text, int position) {
        new Run("promise 4, " + text).text(text).due(position, "errorPosition()", "errorPosition()")
            .due(text.length(), "clearText()");
    }

    private static void errorPositionOfWords() {
        error("", 0);
        error("x", 0);
        error(";", 0);
        error(" draw", 0);
        error("Draw", 0);
        error("d", 1);
        error("dr", 2);
        error("drawn", 4);
        error("draw ", 4);
        error("draw", -1);
        error("draw;", 5);
        error("draw;;", 5);
        error("draw;draw", -1);
        error("draw,draw", 4);
        error("r", 1);
        error("rx", 1);
        error("re", 2);
        error("ru", 2);
        error("rew", 2);
        error("rum", 2);
        error("rev", 3);
        error("run", 3);
        error("p", 1);
        error("prin", 4);
        error("prant", 2);
        error("print", 5);
        error("printt", 5);
        error("s", 1);
        error("stamp", 5);
        error("stomp0/0", 2);
        error("draw;x", 5);
        error("draw;rux", 7);
        error("\u00ff", 0);
    }

    private static void errorPositionOfNumbers() {
        error("draw0", -1);
        error("draw9", -1);
        error("draw10", 5);
        error("draw00", 5);
        error("draw-1", 4);
        error("rev9:0", -1);
        error("rev10:0", 4);
        error("rev:0", 3);
        error("rev0", 4);
        error("rev0;", 4);
        error("rev0@1", 4);
        error("print0", 6);
        error("print0@", 7);
        error("print0@0", -1);
        error("print9@3", -1);
        error("print0@4", 7);
        error("print0@33", 8);
        error("print0:3", 6);
        error("print10@0", 6);
        error("print0@;", 7);
        error("stamp0/0", -1);
        error("stamp23/2", -1);
        error("stamp24/2", 6);
        error("stamp3/2", -1);
        error("stamp30/2", 6);
        error("stamp01/2", 6);
        error("stamp9/3", 7);
        error("stamp19/", 8);
        error("stamp19@0", 7);
        error("stamp1/00", 8);
        error("stamp199/0", 7);
        error("run1", -1);
        error("run9", -1);
        error("run30", -1);
        error("run31", 4);
        error("run0", 3);
        error("run01", 3);
        error("run40", 4);
        error("run300", 5);
        error("run3;run29;run", 14);
        error("run/", 3);
        error("run:", 3);
    }

    private static void errorPositionOfFields() {
        error("rev0:", 5);
        error("rev0:,", 5);
        error("rev0:;", 5);
        error("rev0:0", -1);
        error("rev0:11", -1);
        error("rev0:12", 6);
        error("rev0:9", -1);
        error("rev0:99", 6);
        error("rev0:00", 6);
        error("rev0:01", 6);
        error("rev0:110", 7);
        error("rev0:0,", 7);
        error("rev0:0,;", 7);
        error("rev0:0,1,2,3,4,5,6,7,8,9,10,11", -1);
        error("rev0:0,1,2,3,4,5,6,7,8,9,10,11,", 31);
        error("rev0:0,1,2,3,4,5,6,7,8,9,10,11,1", 32);
        error("rev0:0,1,2,3,4,5,6,7,8,9,10,11,x", 31);
        error("rev0:5,5", 8);
        error("rev0:5,5,6", 8);
        error("rev0:5,5;draw", 8);
        error("rev0:5,4", 8);
        error("rev0:5,0", 8);
        error("rev0:0,0", 8);
        error("rev0:5,1", 8);
        error("rev0:5,10", -1);
        error("rev0:5,12", 8);
        error("rev0:5,1,", 8);
        error("rev0:5,1x", 8);
        error("rev0:11,10", 10);
        error("rev0:11,10;", 10);
        error("rev0:11,3", 9);
        error("rev0:1,1", 8);
        error("rev0:1,11", -1);
        error("rev0:3,7;rev0:1", -1);
    }

    private static void errorPositionOfLongTexts() {
        String draws23 = "draw;".repeat(23);
        error(draws23 + "draw", -1);
        error(draws23 + "draw;", 120);
        error(draws23 + "draw1", -1);
        error(draws23 + "run30", -1);
        error(draws23 + "drawx", 119);
        error(draws23 + "rev0:", 120);
        error("run1;".repeat(24), 120);
    }

    private static void loadDoesTheOrders() {
        new Run("promise 5, orders").text("draw;draw0;rev1:0,11;print1@2;stamp0/1;run30").due(0, "load()")
            .due(2, "about(0)").due(-1, "sheet(0,0)").due(0, "sheet(1,0)").due(1, "sheet(1,1)")
            .due(1, "sheet(0,2)").due(0, "sheet(1,2)").due(1 + 2048, "drawnIn(1,1)").due(1, "about(1)")
            .due(1, "printed(0,0)", "printed(0,1)").due(2, "printed(0,2)")
            .due(2, "printed(0,4)").due(0, "printed(0,3)").due(30, "about(8)")
            .due(0, "load()").due(2, "about(0)").due(1, "about(1)").due(30, "about(8)").due(44, "clearText()");
        new Run("promise 5, fields").text("draw;rev0:4,11;rev0:0;rev0:10").due(0, "load()").due(16 + 2048, "drawnIn(0,1)")
            .due(1, "drawnIn(0,2)").due(1024, "drawnIn(0,3)");
    }

    private static void loadLeavesOut() {
        new Run("promise 5, left out").text("draw0;draw;draw1;rev1:3;print1@0;stamp0/0;draw0;print1@0;stamp0/0;stamp1/0")
            .due(6, "load()").due(2, "about(0)").due(1, "about(1)").due(1, "printed(0,4)");
        new Run("promise 5, full").text("draw;draw;draw;draw;draw;draw;draw;draw;draw;draw;draw;draw9;run1")
            .due(2, "load()").due(10, "about(0)").due(1, "about(8)");
        new Run("promise 5, recalled").text("draw;print0@0;rev0:0;stamp0/0;stamp0/1").due(2, "load()")
            .due(0, "printed(0,4)");
    }

    private static void loadMakesNew() {
        new Run("promise 5, new").after("draw(-1)", "draw(0)", "set(1,0)", "print(0,0)", "print(1,0)", "stamp(0,2)",
                "build(0,0)", "build(1,0)", "set(0,0)", "set(2,9)", "revise(1,4095)", "revise(0,4095)", "revise(1,1)",
                "run(4)", "save(0)", "save(1)")
            .due(72, "about(9)").due(1, "about(7)")
            .text("draw;draw").due(0, "load()").due(2, "about(0)").due(0, "about(1)", "about(2)", "about(3)", "about(4)",
                "about(5)", "about(6)", "about(7)", "about(8)", "about(9)")
            .due(0, "sheet(0,1)", "sheet(0,2)", "field(0,0)", "field(0,11)", "sheet(1,1)", "field(1,0)")
            .due(4095, "drawnIn(0,0)", "drawnIn(1,0)").due(-1, "sheet(1,0)")
            .due(3, "setting(0)").due(1, "setting(1)").due(5, "setting(2)")
            .notNow("undo()", "restore(0)", "restore(1)").due(0, "print(0,3)").due(1, "about(2)").due(-1, "printed(0,6)")
            .due(0, "printed(0,3)", "printed(0,4)", "printed(0,7)").due(0, "undo()").due(0, "about(1)").due(9, "clearText()");
    }

    private static void loadRefused() {
        new Run("promise 5, refused").after("draw(-1)", "save(1)", "draw(0)").notNow("load()").text("draw;")
            .notNow("load()").due(2, "about(0)").due(1, "undo()").due(0, "restore(1)").due(1, "about(0)")
            .due(5, "clearText()");
    }
}
