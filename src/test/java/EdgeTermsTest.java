/** The boundary cases of the sections SHEETS to SETTINGS and ACTIONS AND UNDO, a run for each sentence. */
public final class EdgeTermsTest {
    public static void main(String[] args) {
        sheetsThereAre();
        revisions();
        sheetsToCheck();
        Doc.allTested("SHEETS");
        printsThereAre();
        printsRecalled();
        printsOverdue();
        mayBeBuiltBy();
        Doc.allTested("PRINTS");
        works();
        Doc.allTested("WORKS");
        days();
        Doc.allTested("DAYS");
        settings();
        Doc.allTested("SETTINGS");
        actions();
        remembered();
        Doc.allTested("ACTIONS AND UNDO");
        Run.end("EdgeTermsTest");
    }

    private static void sheetsThereAre() {
        Run run = Doc.run("SHEETS",
            "There are at most 10 sheets, numbered from 0 in the order in which they were drawn.");
        for (int s = 0; s < 10; s++) {
            run.noSuch("sheet(" + s + ",0)").due(s, "draw(-1)").due(s + 1, "about(0)").due(-1, "sheet(" + s + ",0)");
        }
        run.notNow("draw(-1)").due(10, "about(0)").noSuch("sheet(10,0)", "sheet(-1,0)");
        Doc.run("SHEETS", "A sheet is under another one, its parent, that was drawn before, or under none.")
            .noSuch("draw(0)").due(0, "draw(-1)").noSuch("draw(1)", "draw(-2)").due(1, "draw(0)").noSuch("draw(2)")
            .due(2, "draw(1)").due(3, "draw(-1)").due(-1, "sheet(0,0)", "sheet(3,0)").due(0, "sheet(1,0)")
            .due(1, "sheet(2,0)");
        Doc.run("SHEETS", "A sheet has a revision, at first 0, and 12 fields, numbered from 0; each field has the revision "
                + "in which it was drawn last, at first 0.")
            .after("draw(-1)").due(0, "sheet(0,1)", "field(0,0)", "field(0,11)").due(4095, "drawnIn(0,0)")
            .noSuch("field(0,12)", "field(0,-1)").after("revise(0,2048)").due(1, "field(0,11)")
            .due(0, "field(0,0)", "field(0,10)").after("revise(0,1)").due(2, "field(0,0)").due(1, "field(0,11)");
    }

    private static void revisions() {
        Doc.run("SHEETS", "The cloud of a revision above 0 are the fields that it changed.")
            .after("draw(-1)", "draw(-1)", "revise(0,1)").due(1, "drawnIn(0,1)").due(4094, "drawnIn(0,0)")
            .after("revise(0,2048)").due(2048, "drawnIn(0,2)").due(1, "drawnIn(0,1)").due(2046, "drawnIn(0,0)")
            .after("revise(0,4095)").due(4095, "drawnIn(0,3)").due(0, "drawnIn(0,0)", "drawnIn(0,1)", "drawnIn(0,2)")
            .due(4095, "drawnIn(1,0)");
        Doc.run("SHEETS", "When a sheet is revised, its revision becomes 1 more, and the fields of the new cloud have been "
                + "drawn in that revision.")
            .after("draw(-1)", "draw(-1)", "revise(0,2)").due(1, "sheet(0,1)", "field(0,1)").due(0, "sheet(1,1)", "field(0,0)")
            .times(97, "revise(0,4)").due(98, "sheet(0,1)", "field(0,2)").after("revise(0,2)")
            .due(99, "sheet(0,1)", "field(0,1)").due(98, "field(0,2)").due(0, "field(0,0)", "field(1,1)");
    }

    private static void sheetsToCheck() {
        String sentence = "All sheets above it (its parent, the parent of that, and so on) are to be checked then, until "
            + "they are checked or revised themselves; the sheet itself is not to be checked any more.";
        Run chain = Doc.run("SHEETS", sentence);
        for (int s = 0; s < 10; s++) {
            chain.after("draw(" + (s - 1) + ")");
        }
        chain.after("revise(0,1)").due(0, "about(7)").after("revise(9,1)").due(9, "about(7)").due(0, "sheet(9,2)")
            .due(1, "sheet(8,2)", "sheet(0,2)").due(8, "check(0)").due(0, "sheet(0,2)").after("revise(1,1)")
            .due(1, "sheet(0,2)", "sheet(2,2)").due(0, "sheet(1,2)").due(8, "about(7)").after("revise(0,1)")
            .due(0, "sheet(0,2)").due(7, "about(7)").after("revise(9,1)").due(9, "about(7)").due(8, "check(8)");
        Doc.run("SHEETS", sentence).after("draw(-1)", "draw(0)", "draw(0)", "draw(2)", "draw(-1)", "revise(2,1)")
            .due(1, "sheet(0,2)", "about(7)").due(0, "sheet(1,2)", "sheet(2,2)", "sheet(3,2)", "sheet(4,2)")
            .after("revise(4,1)").due(1, "about(7)");
    }

    private static void printsThereAre() {
        Run run = Doc.run("PRINTS", "There are at most 24 prints, numbered from 0 in the order in which they were made.")
            .after("draw(-1)");
        for (int p = 0; p < 24; p++) {
            run.noSuch("printed(" + p + ",0)").due(p, "print(0,0)").due(p + 1, "about(1)").due(0, "printed(" + p + ",0)");
        }
        run.notNow("print(0,0)").after("back(0)").notNow("print(0,0)").due(24, "about(1)").noSuch("printed(24,0)");
        Doc.run("PRINTS", "A print has a sheet, the revision that the sheet had then, a site, 0 to 3, the day on which it was "
                + "made, and stamps by hands, 0 to 2, as a set.")
            .after("draw(-1)", "draw(-1)", "print(0,0)", "revise(1,1)", "run(30)", "print(1,3)", "revise(1,1)", "run(1)")
            .noSuch("print(0,4)", "print(0,-1)").due(0, "printed(0,0)", "printed(0,1)", "printed(0,2)", "printed(0,3)",
                "printed(0,4)").due(1, "printed(1,0)", "printed(1,1)").due(3, "printed(1,2)").due(30, "printed(1,3)")
            .noSuch("stamp(0,3)", "stamp(0,-1)").after("stamp(0,2)").due(4, "printed(0,4)").after("stamp(0,0)")
            .due(5, "printed(0,4)").after("stamp(0,1)").due(7, "printed(0,4)").due(0, "printed(1,4)");
        Doc.run("PRINTS", "It is out, at the site, or it has come back.").after("draw(-1)", "print(0,1)", "print(0,1)")
            .due(1, "printed(0,5)").after("back(0)").due(0, "printed(0,5)").due(1, "printed(1,5)", "printed(0,2)")
            .notNow("back(0)").after("back(1)").due(0, "printed(1,5)", "about(2)");
    }

    private static void printsRecalled() {
        String sentence = "When a sheet is revised, each print of it that is out, and not recalled yet, is recalled: it is due "
            + "on the day today plus setting 0.";
        Doc.run("PRINTS", sentence).after("draw(-1)", "draw(0)", "draw(0)").after("print(1,0)", "print(0,0)", "print(2,0)",
                "print(1,3)", "print(1,1)", "back(4)")
            .due(2, "revise(1,1)").due(3, "printed(0,6)", "printed(3,6)").due(-1, "printed(1,6)", "printed(2,6)", "printed(4,6)")
            .after("run(1)").due(0, "revise(1,1)").due(3, "printed(0,6)", "printed(3,6)").due(-1, "printed(4,6)")
            .due(1, "revise(0,1)").due(4, "printed(1,6)");
        Doc.run("PRINTS", sentence).after("draw(-1)", "print(0,0)", "set(0,0)").due(1, "revise(0,1)").due(0, "printed(0,6)")
            .after("print(0,0)", "set(0,20)").due(1, "revise(0,1)").due(20, "printed(1,6)").due(0, "printed(0,6)")
            .after("print(0,0)", "run(30)").due(1, "revise(0,1)").due(50, "printed(2,6)").after("set(0,1)")
            .due(50, "printed(2,6)");
        Run all = Doc.run("PRINTS", sentence).after("draw(-1)").due(0, "revise(0,1)").times(24, "print(0,2)");
        all.due(24, "revise(0,1)").due(24, "about(3)").due(3, "printed(0,6)", "printed(23,6)").due(0, "revise(0,1)");
    }

    private static void printsOverdue() {
        String sentence = "A print that is out is overdue if it is recalled, and today is behind the day on which it is due.";
        Doc.run("PRINTS", sentence).after("draw(-1)", "print(0,0)", "print(0,0)", "revise(0,1)", "print(0,0)", "run(2)")
            .due(0, "about(4)").after("run(1)").due(3, "about(8)", "printed(0,6)").due(0, "about(4)").after("run(1)")
            .due(2, "about(4)").after("back(0)").due(1, "about(4)").after("run(30)").due(1, "about(4)");
        Doc.run("PRINTS", sentence).after("draw(-1)", "print(0,0)", "set(0,0)", "revise(0,1)").due(0, "about(4)")
            .after("run(1)").due(1, "about(4)");
    }

    private static void mayBeBuiltBy() {
        String sentence = "A print may be built by if it is out, is not recalled, has stamps by setting 1 hands or more, and its "
            + "sheet is not to be checked.";
        for (int hands = 0; hands <= 3; hands++) {
            Run run = Doc.run("PRINTS", sentence).after("draw(-1)", "print(0,0)", "set(1," + hands + ")");
            for (int stamps = 0; stamps <= 3; stamps++) {
                run.due(stamps >= hands ? 1 : 0, "printed(0,7)");
                run.after("stamp(0," + Math.min(stamps, 2) + ")");
            }
        }
        Doc.run("PRINTS", sentence).after("set(1,0)", "draw(-1)", "draw(0)", "print(0,0)", "print(0,0)", "print(1,0)")
            .due(1, "printed(0,7)", "printed(2,7)").after("back(0)").due(0, "printed(0,7)").due(1, "printed(1,7)")
            .after("revise(1,1)").due(0, "printed(2,7)", "printed(1,7)").after("check(0)").due(1, "printed(1,7)")
            .due(0, "printed(2,7)").after("print(1,0)").due(1, "printed(3,7)");
    }

    private static void works() {
        Doc.run("WORKS", "When a field is built by a print, this is a work: the site of the print, its sheet, the field, the "
                + "revision of the print.")
            .after("set(1,0)", "draw(-1)", "draw(-1)", "revise(1,1)", "print(0,0)", "print(1,3)", "build(0,0)", "build(1,11)")
            .due(0, "work(0,0)", "work(0,1)", "work(0,2)", "work(0,3)").due(3, "work(1,0)").due(1, "work(1,1)", "work(1,3)")
            .due(11, "work(1,2)").after("revise(1,1)").due(1, "work(1,3)");
        Run run = Doc.run("WORKS", "There are at most 30 works, numbered from 0 in their order.")
            .after("set(1,0)", "draw(-1)", "print(0,0)");
        for (int w = 0; w < 30; w++) {
            run.noSuch("work(" + w + ",0)").due(w, "build(0," + w % 12 + ")").due(w % 12, "work(" + w + ",2)");
        }
        run.notNow("build(0,0)").due(30, "about(5)").noSuch("work(30,0)", "work(-1,0)");
        Doc.run("WORKS", "A work is wrong if its field was drawn in a later revision of the sheet than that of the work.")
            .after("set(1,0)", "draw(-1)", "draw(0)", "revise(0,4)", "print(0,0)", "print(1,0)", "build(0,2)", "build(0,3)",
                "build(1,2)")
            .due(0, "work(0,4)", "work(1,4)").after("revise(0,8)").due(0, "work(0,4)", "work(2,4)").due(1, "work(1,4)")
            .after("revise(0,4)").due(1, "work(0,4)", "work(1,4)").due(0, "work(2,4)").after("revise(1,4)").due(1, "work(2,4)");
        Doc.run("WORKS", "A work that is wrong can be mended: it has the present revision of the sheet then.")
            .after("set(1,0)", "draw(-1)", "print(0,0)", "build(0,2)").notNow("mend(0)").after("revise(0,4)", "revise(0,8)")
            .due(0, "work(0,3)").due(0, "mend(0)").due(2, "work(0,3)").due(0, "work(0,4)").notNow("mend(0)")
            .after("revise(0,8)").notNow("mend(0)").after("revise(0,4)").due(1, "work(0,4)").due(0, "mend(0)")
            .due(4, "work(0,3)");
    }

    private static void days() {
        Doc.run("DAYS", "Today is the day 0 at first.").due(0, "about(8)").after("draw(-1)", "print(0,0)")
            .due(0, "printed(0,3)").due(0, "save(0)").after("run(1)").due(1, "about(8)");
        String sentence = "When days go by, each print that is overdue on a day costs setting 2 on that day (the days behind "
            + "today up to the new day are looked at, one by one; nothing else happens in them).";
        Doc.run("DAYS", sentence).after("draw(-1)", "draw(0)", "print(1,0)", "print(1,0)", "print(0,0)", "revise(1,1)")
            .due(0, "run(3)").due(10, "run(1)").due(10, "run(1)").due(20, "run(2)").due(40, "about(9)")
            .due(7, "about(8)").after("back(0)").due(40, "about(9)").due(150, "run(30)").due(190, "about(9)")
            .due(1, "sheet(0,2)", "about(3)").due(2, "about(2)").due(3, "printed(1,6)").due(-1, "printed(2,6)");
        Doc.run("DAYS", sentence).after("draw(-1)", "set(0,0)", "set(2,99)", "print(0,0)", "revise(0,1)").due(99, "run(1)")
            .after("set(2,0)").due(0, "run(30)").due(99, "about(9)").after("set(2,1)").due(1, "run(1)").due(100, "about(9)");
        Run most = Doc.run("DAYS", sentence).after("draw(-1)", "set(0,0)", "set(2,99)").times(24, "print(0,3)");
        most.after("revise(0,1)").due(24 * 99 * 30, "run(30)", "run(30)").due(2 * 24 * 99 * 30, "about(9)");
        Doc.run("DAYS", sentence).after("draw(-1)", "print(0,0)", "revise(0,1)", "print(0,0)", "run(1)", "revise(0,1)")
            .due(5 * (2 + 1), "run(4)").due(2, "about(4)");
    }

    private static void settings() {
        setting(0, 20, 3, "0: the days of a recall, 0 to 20, at first 3");
        setting(1, 3, 1, "1: the hands that have to stamp, 0 to 3, at first 1");
        setting(2, 99, 5, "2: what an overdue print costs on a day, 0 to 99, at first 5");
    }

    private static void setting(int what, int most, int first, String sentence) {
        String set = "set(" + what + ",";
        Doc.run("SETTINGS", sentence).due(first, "setting(" + what + ")").badArgument(set + "-1)", set + (most + 1) + ")")
            .due(first, "setting(" + what + ")").due(first, set + most + ")").due(most, "setting(" + what + ")")
            .due(most, set + "0)").due(0, "setting(" + what + ")");
    }

    private static void actions() {
        Doc.run("ACTIONS AND UNDO", "The methods in the section \"actions\" change the state, which consists of everything but "
                + "the text and the save slots.")
            .after("append(114)", "run(1)", "save(0)", "append(117)", "run(1)", "append(110)").due(1, "undo()").due(0, "undo()")
            .due(0, "about(8)").due(3, "errorPosition()").due(1, "restore(0)").due(3, "clearText()").notNow("restore(1)");
        Doc.run("ACTIONS AND UNDO", "Each call of one of them that does not throw an exception is an action, also if nothing "
                + "becomes different (undo is none).")
            .due(3, "set(0,3)").due(0, "undo()").notNow("undo()").after("draw(-1)", "print(0,0)", "stamp(0,1)", "stamp(0,1)")
            .due(3, "undo()").due(2, "printed(0,4)").due(2, "undo()").due(0, "printed(0,4)").due(1, "undo()")
            .due(0, "about(1)").due(0, "undo()").notNow("undo()").due(0, "about(0)");
        Run each = Doc.run("ACTIONS AND UNDO", "Before each action, the state is remembered.").after("set(1,0)", "draw(-1)",
            "draw(0)", "print(1,0)", "build(0,0)", "stamp(0,0)", "revise(1,1)", "check(0)", "mend(0)", "back(0)", "run(1)");
        each.due(10, "undo()").due(0, "about(8)").due(9, "undo()").due(1, "about(2)").due(8, "undo()").due(1, "about(6)")
            .due(7, "undo()").due(1, "about(7)").due(6, "undo()").due(0, "about(7)", "sheet(1,1)").due(5, "undo()")
            .due(0, "printed(0,4)").due(4, "undo()").due(0, "about(5)").due(3, "undo()").due(0, "about(1)").due(2, "undo()")
            .due(1, "about(0)").due(1, "undo()").due(0, "about(0)").due(0, "undo()").due(1, "setting(1)").notNow("undo()");
        Doc.run("ACTIONS AND UNDO", "Before each action, the state is remembered.").after("run(7)", "set(0,20)", "set(2,0)",
                "set(1,3)").due(3, "undo()").due(1, "setting(1)").due(0, "setting(2)").due(2, "undo()").due(5, "setting(2)")
            .due(20, "setting(0)").due(1, "undo()").due(3, "setting(0)").due(7, "about(8)").due(0, "undo()").due(0, "about(8)");
        Doc.run("ACTIONS AND UNDO", "load and restore are not actions.").text("run1").after("run(2)", "save(0)").due(2, "restore(0)")
            .notNow("undo()").after("run(3)").due(0, "load()").due(1, "about(8)").notNow("undo()").after("run(1)")
            .due(0, "undo()").due(1, "about(8)").notNow("undo()");
    }

    private static void remembered() {
        String sentence = "At most 14 states are remembered; when one more is remembered, the oldest one is forgotten.";
        for (int actions = 13; actions <= 16; actions++) {
            int left = Math.min(actions, 14);
            Run run = Doc.run("ACTIONS AND UNDO", sentence).times(actions, "run(1)");
            for (int undone = 1; undone <= left; undone++) {
                run.due(left - undone, "undo()").due(actions - undone, "about(8)");
            }
            run.notNow("undo()").due(actions - left, "about(8)");
        }
        Run often = Doc.run("ACTIONS AND UNDO", sentence).times(480, "run(2)");
        for (int left = 13; left >= 0; left--) {
            often.due(left, "undo()").due(2 * (466 + left), "about(8)");
        }
        often.notNow("undo()");
        Doc.run("ACTIONS AND UNDO", sentence).times(20, "run(1)").due(13, "undo()").due(12, "undo()")
            .after("run(5)").due(23, "about(8)").due(12, "undo()").due(18, "about(8)").due(11, "undo()").due(17, "about(8)")
            .times(3, "run(9)").due(13, "undo()").due(35, "about(8)").due(12, "undo()").due(11, "undo()")
            .due(17, "about(8)").due(10, "undo()").due(16, "about(8)");
    }
}
