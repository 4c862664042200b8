/** The boundary cases of the section TEXT and of the promises 1 to 5, a run for each sentence. */
public final class EdgeTextTest {
    private static final String DIGITS = "0123456789";
    private static final String WORDS = "dprs";
    /** The longest office with orders of one kind alone: 24 orders, 119 characters. */
    private static final String DRAWS_24 = "draw;".repeat(23) + "draw";

    public static void main(String[] args) {
        textBuffer();
        orders();
        ordersDone();
        spelling();
        notAllowed();
        fieldsNotGreater();
        tooSoon();
        Doc.allTested("TEXT");
        nextCharacters();
        append();
        clearText();
        errorPosition();
        load();
        Doc.allTested(2, 5);
        Run.end("EdgeTextTest");
    }

    private static void error(String sentence, String text, int position) {
        Doc.run("TEXT", sentence).text(text).due(position, "errorPosition()").due(text.length(), "clearText()");
    }

    private static void offices(String sentence, String... texts) {
        for (String text : texts) {
            error(sentence, text, -1);
        }
    }

    private static void textBuffer() {
        String sentence = "The object has a text buffer of at most 120 characters.";
        Doc.run("TEXT", sentence).text("x".repeat(119)).due(120, "append(120)").notNow("append(120)").due(120, "clearText()");
        Doc.run("TEXT", sentence).text(DRAWS_24 + "9").due(-1, "errorPosition()").notNow("append(59)").due(-1, "errorPosition()")
            .due(14, "load()").due(10, "about(0)");
    }

    private static void orders() {
        String sentence = "An office as a text is one or more orders with a semicolon between them";
        error(sentence, "", 0);
        error(sentence, ";", 0);
        error(sentence, ";draw", 0);
        error(sentence, "draw;", 5);
        error(sentence, "draw;;draw", 5);
        error(sentence, "drawdraw", 4);
        error(sentence, "draw,draw", 4);
        error(sentence, "run1run1", 4);
        error(sentence, DRAWS_24 + ";", 120);
        offices(sentence, "draw", "draw;draw", DRAWS_24, "run1;".repeat(23) + "run30");
        sentence = "\"draw\" and, perhaps, a sheet (0 to 9): draw() under that sheet, or under none";
        offices(sentence, "draw", "draw0", "draw9");
        error(sentence, "draw10", 5);
        error(sentence, "draw-1", 4);
        sentence = "\"rev\", a sheet, a colon, and one or more fields, 0 to 11, ascending, with a comma between them: revise()";
        offices(sentence, "rev0:0", "rev9:11", "rev0:0,1", "rev0:0,11", "rev0:10,11", "rev0:0,1,2,3,4,5,6,7,8,9,10,11");
        error(sentence, "rev10:0", 4);
        error(sentence, "rev:0", 3);
        error(sentence, "rev0", 4);
        error(sentence, "rev0,0", 4);
        error(sentence, "rev0:", 5);
        error(sentence, "rev0:;", 5);
        error(sentence, "rev0:,0", 5);
        error(sentence, "rev0:12", 6);
        error(sentence, "rev0:0,,1", 7);
        error(sentence, "rev0:0;1", 7);
        sentence = "\"print\", a sheet, the sign @, and a site (0 to 3): print()";
        offices(sentence, "print0@0", "print9@3");
        error(sentence, "print10@0", 6);
        error(sentence, "print0@4", 7);
        error(sentence, "print@0", 5);
        error(sentence, "print0/0", 6);
        sentence = "\"stamp\", a print (0 to 23), a slash, and a hand (0 to 2): stamp()";
        offices(sentence, "stamp0/0", "stamp2/2", "stamp3/0", "stamp9/0", "stamp10/0", "stamp19/0", "stamp20/0", "stamp23/2");
        error(sentence, "stamp24/0", 6);
        error(sentence, "stamp30/0", 6);
        error(sentence, "stamp0/3", 7);
        error(sentence, "stamp/0", 5);
        error(sentence, "stamp0@0", 6);
        sentence = "\"run\" and a number of days, 1 to 30: run()";
        offices(sentence, "run1", "run9", "run10", "run29", "run30");
        error(sentence, "run", 3);
        error(sentence, "run0", 3);
        error(sentence, "run31", 4);
        error(sentence, "run100", 5);
    }

    private static void ordersDone() {
        Doc.run("TEXT", "\"draw\" and, perhaps, a sheet (0 to 9): draw() under that sheet, or under none")
            .text("draw;draw;draw0;draw1;draw3;draw4;draw5;draw6;draw7;draw8;draw9").due(1, "load()").due(10, "about(0)")
            .due(-1, "sheet(0,0)", "sheet(1,0)").due(0, "sheet(2,0)").due(1, "sheet(3,0)").due(8, "sheet(9,0)");
        Doc.run("TEXT", "\"rev\", a sheet, a colon, and one or more fields, 0 to 11, ascending, with a comma between them: "
                + "revise()")
            .text("draw;rev0:0,1,2,3,4,5,6,7,8,9,10,11;rev0:0;rev0:11;rev0:1,10").due(0, "load()").due(4, "sheet(0,1)")
            .due(4095 - 1 - 2048 - 2 - 1024, "drawnIn(0,1)").due(1, "drawnIn(0,2)").due(2048, "drawnIn(0,3)")
            .due(2 + 1024, "drawnIn(0,4)").due(0, "drawnIn(0,0)");
        Run nine = Doc.run("TEXT", "\"print\", a sheet, the sign @, and a site (0 to 3): print()");
        nine.text("draw;".repeat(10) + "print0@0;print9@3;rev9:4").due(0, "load()").due(2, "about(1)").due(0, "printed(0,0)",
            "printed(0,2)").due(9, "printed(1,0)").due(3, "printed(1,2)").due(3, "printed(1,6)").due(-1, "printed(0,6)");
        Run stamps = Doc.run("TEXT", "\"stamp\", a print (0 to 23), a slash, and a hand (0 to 2): stamp()");
        stamps.text("draw;print0@0;stamp0/0;stamp0/2;stamp1/0;stamp23/2").due(2, "load()").due(5, "printed(0,4)");
        Run eleven = Doc.run("TEXT", "\"stamp\", a print (0 to 23), a slash, and a hand (0 to 2): stamp()");
        eleven.text("draw" + ";print0@0".repeat(11) + ";stamp10/1").due(0, "load()").due(2, "printed(10,4)")
            .due(0, "printed(1,4)", "printed(0,4)");
        Doc.run("TEXT", "\"run\" and a number of days, 1 to 30: run()").text("run1;run30").due(0, "load()").due(31, "about(8)");
        Doc.run("TEXT", "The text is read from left to right.").text("draw0;draw;draw0;print0@0;rev0:0;run5;print1@1")
            .due(1, "load()").due(0, "sheet(1,0)", "printed(0,1)", "printed(0,3)").due(5, "printed(1,3)").due(10, "about(9)")
            .due(2, "about(0)");
        error("The text is read from left to right.", "rex;rux", 2);
    }

    private static void spelling() {
        String sentence = "Numbers have no zeros ahead.";
        offices(sentence, "draw0", "rev0:0", "print0@0", "stamp0/0", "rev0:0,10", "stamp20/0", "run10");
        error(sentence, "draw00", 5);
        error(sentence, "draw01", 5);
        error(sentence, "rev01:0", 4);
        error(sentence, "rev0:00", 6);
        error(sentence, "rev0:01", 6);
        error(sentence, "rev0:0,01", 8);
        error(sentence, "print01@0", 6);
        error(sentence, "print0@01", 8);
        error(sentence, "stamp00/0", 6);
        error(sentence, "stamp01/0", 6);
        error(sentence, "stamp0/01", 8);
        error(sentence, "run01", 3);
        sentence = "There are no blanks.";
        error(sentence, " draw", 0);
        error(sentence, "draw ", 4);
        error(sentence, "draw 0", 4);
        error(sentence, "draw; draw", 5);
        error(sentence, "rev0: 0", 5);
        error(sentence, "rev0:0, 1", 7);
        error(sentence, "run 1", 3);
        error(sentence, "draw\t", 4);
        error(sentence, "draw\n", 4);
    }

    private static void notAllowed() {
        String sentence = "The error position is the index of the first character that these rules do not allow at its place";
        error(sentence, "\u0000", 0);
        error(sentence, "\u00ff", 0);
        error(sentence, "DRAW", 0);
        error(sentence, "xx", 0);
        error(sentence, "draw0;xx", 6);
        error(sentence, DRAWS_24 + "x", 119);
        sentence = "a letter or a digit is not allowed if no word, or no number that is allowed there, begins with it and those "
            + "before it";
        error(sentence, "a", 0);
        error(sentence, "rr", 1);
        error(sentence, "ret", 2);
        error(sentence, "rum", 2);
        error(sentence, "reun1", 2);
        error(sentence, "prit", 3);
        error(sentence, "draw;stab", 8);
        error(sentence, "0", 0);
        error(sentence, "draw55", 5);
        error(sentence, "stamp25/0", 6);
        error(sentence, "stamp230/0", 7);
        error(sentence, "run32", 4);
        error(sentence, "run301", 5);
        error(sentence, "rev0:19", 6);
        error(sentence, "rev0:111", 7);
        error(sentence, "print0@9", 7);
    }

    private static void fieldsNotGreater() {
        String sentence = "nor is a comma or a semicolon behind a field that is not greater than the one before it";
        error(sentence, "rev0:5,5,6", 8);
        error(sentence, "rev0:5,5;draw", 8);
        error(sentence, "rev0:5,4,6", 8);
        error(sentence, "rev0:5,4;", 8);
        error(sentence, "rev0:5,0;", 8);
        error(sentence, "rev0:0,0,", 8);
        error(sentence, "rev0:11,11;", 10);
        error(sentence, "rev0:11,10,", 10);
        error(sentence, "rev0:11,1;", 9);
        error(sentence, "rev0:5,1;", 8);
        error(sentence, "rev0:0,1,2,2,3", 12);
        offices(sentence, "rev0:5,6;draw", "rev0:5,10,11;draw", "rev0:9,10;rev0:9", "rev0:9,11;rev0:0,1");
    }

    private static void tooSoon() {
        String sentence = "if the text ends too soon (also behind such a field), it is the length of the text";
        for (String text : new String[] {"", "d", "dr", "dra", "draw;", "r", "re", "ru", "rev", "rev0", "rev0:", "rev0:0,", "p",
                "prin", "print", "print9", "print9@", "s", "stam", "stamp", "stamp2", "stamp23", "stamp23/", "run", "draw;s"}) {
            error(sentence, text, text.length());
        }
        for (String text : new String[] {"rev0:5,5", "rev0:5,4", "rev0:5,0", "rev0:5,1", "rev0:11,11", "rev0:11,10", "rev0:0,0",
                "rev0:11,", "draw;rev0:2,1"}) {
            error(sentence, text, text.length());
        }
    }

    /** Behind each of these texts every character is tried, and just those are allowed that stand beside it. */
    private static void nextCharacters() {
        next("", false, WORDS);
        next("draw;", false, WORDS);
        next("rev0:5;", false, WORDS);
        next("d", false, "r");
        next("dra", false, "w");
        next("draw", true, DIGITS + ";");
        next("draw9", true, ";");
        next("r", false, "eu");
        next("re", false, "v");
        next("rev", false, DIGITS);
        next("rev9", false, ":");
        next("rev0:", false, DIGITS);
        next("rev0:0", true, ",;");
        next("rev0:1", true, ",;01");
        next("rev0:2", true, ",;");
        next("rev0:10", true, ",;");
        next("rev0:11", true, ",;");
        next("rev0:5,", false, DIGITS);
        next("rev0:5,1", false, "01");
        next("rev0:0,1", true, ",;01");
        next("rev0:5,4", false, "");
        next("rev0:5,5", false, "");
        next("rev0:5,6", true, ",;");
        next("rev0:5,11", true, ",;");
        next("rev0:10,10", false, "");
        next("p", false, "r");
        next("print", false, DIGITS);
        next("print0", false, "@");
        next("print0@", false, "0123");
        next("print0@3", true, ";");
        next("s", false, "t");
        next("stamp", false, DIGITS);
        next("stamp0", false, "/");
        next("stamp1", false, "/" + DIGITS);
        next("stamp2", false, "/0123");
        next("stamp3", false, "/");
        next("stamp23", false, "/");
        next("stamp0/", false, "012");
        next("stamp0/2", true, ";");
        next("ru", false, "n");
        next("run", false, "123456789");
        next("run1", true, DIGITS + ";");
        next("run2", true, DIGITS + ";");
        next("run3", true, "0;");
        next("run4", true, ";");
        next("run30", true, ";");
    }

    private static void next(String text, boolean isOffice, String allowed) {
        for (int c = 0; c <= 255; c++) {
            TrueSheets sheets = new TrueSheets();
            for (char sign : text.toCharArray()) {
                sheets.append(sign);
            }
            Run.check(text + " is an office", sheets.errorPosition() == -1, isOffice);
            sheets.append(c);
            int position = sheets.errorPosition();
            Run.check(text + " and the character " + c, position == text.length(), allowed.indexOf(c) < 0);
            Run.check("no earlier error than at the end of " + text, position == -1 || position >= text.length(), true);
        }
    }

    private static void append() {
        Doc.promise(2, "`c`: character code, 0 to 255").badArgument("append(-1)", "append(256)", "append(-2147483648)",
            "append(2147483647)").due(1, "append(0)").due(2, "append(255)").due(2, "clearText()");
        Run lengths = Doc.promise(2, "Returns the new length of the text.");
        for (int length = 1; length <= 120; length++) {
            lengths.due(length, "append(" + 2 * length + ")");
        }
        lengths.due(120, "clearText()").due(1, "append(0)");
        Doc.promise(2, "Throws `IllegalArgumentException` if c is out of range").badArgument("append(-1)", "append(256)")
            .due(0, "clearText()").due(1, "append(32)").badArgument("append(256)").due(1, "clearText()");
        Doc.promise(2, "Throws `IllegalStateException` if the text already has 120 characters").text("s".repeat(119))
            .due(120, "append(0)").notNow("append(0)", "append(255)").due(120, "clearText()").due(1, "append(0)");
    }

    private static void clearText() {
        Doc.promise(3, "Returns the previous length of the text.").due(0, "clearText()", "clearText()").due(1, "append(0)")
            .due(1, "clearText()").due(0, "clearText()").text("r".repeat(120)).due(120, "clearText()").due(0, "clearText()");
        Doc.promise(3, "Empties the text buffer.").text("draw").due(4, "clearText()").due(0, "errorPosition()").text("run1")
            .due(0, "load()").due(0, "about(0)").due(1, "about(8)");
    }

    private static void errorPosition() {
        Doc.promise(4, "Returns the error position of the text; NONE if it is an office.").due(0, "errorPosition()").text("run30")
            .due(-1, "errorPosition()", "errorPosition()").due(6, "append(59)").due(6, "errorPosition()").due(0, "about(8)");
        Doc.promise(4, "Returns the error position of the text; NONE if it is an office.").text(DRAWS_24 + ";")
            .due(120, "errorPosition()").text("x".repeat(120)).due(0, "errorPosition()").text(DRAWS_24).due(-1, "errorPosition()");
    }

    private static void load() {
        Doc.promise(5, "Makes everything as in a new object, and then does the orders of the text")
            .after("draw(-1)", "draw(0)", "set(0,0)", "set(1,0)", "set(2,99)", "print(1,3)", "build(0,0)", "revise(1,1)", "run(30)")
            .text("run1").due(0, "load()").due(0, "about(0)", "about(1)", "about(2)", "about(3)", "about(4)", "about(5)",
                "about(6)", "about(7)", "about(9)").due(1, "about(8)", "setting(1)").due(3, "setting(0)").due(5, "setting(2)")
            .noSuch("sheet(0,0)", "printed(0,0)", "work(0,0)");
        Doc.promise(5, "Makes everything as in a new object, and then does the orders of the text")
            .after("draw(-1)", "draw(0)", "print(1,3)", "stamp(0,2)", "build(0,0)", "revise(1,4095)",
                "revise(0,4095)", "run(30)")
            .text("draw;draw;print1@1").due(0, "load()").due(-1, "sheet(1,0)", "printed(0,6)").due(0, "sheet(1,1)", "sheet(0,2)",
                "field(1,0)", "field(1,11)", "field(0,0)", "field(0,11)", "printed(0,1)", "printed(0,3)", "printed(0,4)")
            .due(4095, "drawnIn(1,0)", "printed(0,8)")
            .due(1, "printed(0,2)", "printed(0,5)");
        Doc.promise(5, "a call that would throw an exception is left out").text("draw0;print0@0;stamp0/0;rev0:0").due(4, "load()")
            .due(0, "about(0)", "about(1)").text("draw;draw0;rev0:0;print1@3;stamp0/2").due(0, "load()").due(2, "about(0)");
        Doc.promise(5, "a call that would throw an exception is left out").text("draw;print0@0;rev0:0;stamp0/0;print0@0;stamp1/0")
            .due(1, "load()").due(0, "printed(0,4)").due(1, "printed(1,4)");
        Doc.promise(5, "Behind it no state is remembered, and both save slots are empty.").text("draw").after("run(1)", "save(0)",
            "save(1)").due(0, "load()").notNow("undo()", "restore(0)", "restore(1)").due(0, "save(1)").notNow("restore(0)")
            .due(0, "restore(1)").due(0, "load()").notNow("restore(1)");
        Doc.promise(5, "Keeps the text.").text("draw;run1").due(0, "load()").due(-1, "errorPosition()").due(0, "load()")
            .due(1, "about(0)", "about(8)").due(9, "clearText()").text("draw0").due(1, "load()").due(5, "clearText()");
        Doc.promise(5, "Returns the number of orders that are left out.").text("draw").due(0, "load()").text("draw0")
            .due(1, "load()").text("draw0;".repeat(20)).notNow("load()").text("draw0;".repeat(19) + "rev0:0").due(20, "load()")
            .text(DRAWS_24).due(14, "load()");
        Doc.promise(5, "Throws `IllegalStateException` if the text is not an office").notNow("load()").after("run(2)", "save(1)")
            .text("draw;").notNow("load()").text("run0").notNow("load()").text("rev0:1,1").notNow("load()").due(2, "about(8)")
            .due(2, "restore(1)").due(9, "append(49)").due(1, "load()").notNow("restore(1)").due(0, "about(8)");
    }
}
