import java.util.ArrayList;
import java.util.List;

/** The sentences of the section EXCEPTIONS, and that calls which are refused, or only look, change nothing. */
public final class EdgeRefusalTest {
    private static final String NO_SUCH = "throws.IndexOutOfBoundsException";
    private static final String BAD_ARGUMENT = "throws.IllegalArgumentException";
    private static final String NOT_NOW = "throws.IllegalStateException";

    /** Print 0 is recalled, 1 of a sheet to be checked, 2 to be built by, 3 back; work 0 is wrong; 14 states are remembered. */
    private static final String[] OFFICE = calls("append(114)", "append(117)", "set(1,0)", "draw(-1)", "draw(0)", "draw(-1)",
        "print(1,0)", "print(0,3)", "build(0,0)", "build(1,11)", "revise(1,1)", "print(1,2)", "print(2,1)", "back(3)", "save(0)",
        "run(4)", "run(1)", "run(2)", "run(3)");
    private static final String[] FULL_TEXT = times(120, "append(100)");
    private static final String[] FULL_OFFICE = calls("set(1,0)", times(10, "draw(-1)"), times(24, "print(0,0)"),
        times(30, "build(0,0)"), "save(0)");
    private static final String[] LAST_REVISION = calls("draw(-1)", "draw(0)", "print(1,0)", times(99, "revise(1,1)"), "save(0)");
    private static final String[] RESTORED = calls("draw(-1)", "save(0)", "draw(-1)", "restore(0)");

    public static void main(String[] args) {
        noSuchThing();
        argumentOutOfRange();
        asTheMethodSays();
        theFirstOne();
        changesNothing();
        Doc.allTested("EXCEPTIONS");
        looksChangeNothing();
        Run.end("EdgeRefusalTest");
    }

    private static String[] calls(Object... parts) {
        List<String> calls = new ArrayList<>();
        for (Object part : parts) {
            if (part instanceof String) {
                calls.add((String) part);
            } else {
                calls.addAll(List.of((String[]) part));
            }
        }
        return calls.toArray(new String[0]);
    }

    private static String[] times(int n, String call) {
        String[] calls = new String[n];
        java.util.Arrays.fill(calls, call);
        return calls;
    }

    private static void noSuchThing() {
        String sentence = "IndexOutOfBoundsException means that a sheet, a field, a print, a work, a site or a hand does not exist, "
            + "or that a save slot is not 0 or 1.";
        Doc.run("EXCEPTIONS", sentence).after(OFFICE).noSuch("sheet(3,0)", "sheet(-1,0)", "drawnIn(3,0)", "draw(3)", "revise(3,1)",
            "check(3)", "print(3,0)", "truePrint(0,3)", "ifRevised(3,1,0)", "common(0,3)", "common(-1,0)");
        Doc.run("EXCEPTIONS", sentence).after(OFFICE).noSuch("field(0,12)", "field(0,-1)", "build(2,12)", "build(2,-1)");
        Doc.run("EXCEPTIONS", sentence).after(OFFICE).noSuch("printed(4,0)", "printed(-1,0)", "stamp(4,0)", "back(4)", "build(4,0)");
        Doc.run("EXCEPTIONS", sentence).after(OFFICE).noSuch("work(2,0)", "work(-1,0)", "mend(2)", "mend(-1)");
        Doc.run("EXCEPTIONS", sentence).after(OFFICE).noSuch("print(0,4)", "print(0,-1)", "truePrint(4,0)", "truePrint(-1,0)");
        Doc.run("EXCEPTIONS", sentence).after(OFFICE).noSuch("stamp(2,3)", "stamp(2,-1)");
        Doc.run("EXCEPTIONS", sentence).after(OFFICE).noSuch("save(2)", "save(-1)", "restore(2)", "restore(-1)");
    }

    private static void argumentOutOfRange() {
        Doc.run("EXCEPTIONS", "IllegalArgumentException means that another argument is out of its range.").after(OFFICE)
            .badArgument("append(-1)", "append(256)", "about(10)", "sheet(0,8)", "drawnIn(0,1)", "printed(0,9)", "work(0,5)",
                "setting(3)", "revise(0,0)", "revise(0,4096)", "run(0)", "run(31)", "set(3,0)", "set(0,21)", "ifRevised(0,0,0)",
                "ifRevised(0,1,4)", "coming(0)", "coming(31)", "fetch(-1)", "runScript(0,0)", "runScript(1,-1)",
                "runScript(1,1000000)", "simulate(0,0)", "simulate(0,81)");
    }

    private static void asTheMethodSays() {
        String sentence = "IllegalStateException means what the method says.";
        Doc.run("EXCEPTIONS", sentence).after(OFFICE).notNow("load()", "check(1)", "stamp(0,0)", "stamp(3,0)", "back(3)", "build(0,0)",
            "build(1,0)", "build(3,0)", "mend(1)", "restore(1)");
        Doc.run("EXCEPTIONS", sentence).after(FULL_TEXT).notNow("append(0)", "load()", "undo()");
        Doc.run("EXCEPTIONS", sentence).after(FULL_OFFICE).notNow("draw(0)", "draw(-1)", "print(0,0)", "build(0,0)");
        Doc.run("EXCEPTIONS", sentence).after(LAST_REVISION).notNow("revise(1,1)", "ifRevised(1,1,0)");
        Doc.run("EXCEPTIONS", sentence).after(RESTORED).notNow("undo()");
    }

    private static void theFirstOne() {
        String sentence = "If several exceptions apply to a call, the one that its description names first is thrown.";
        Doc.run("EXCEPTIONS", sentence).after(FULL_TEXT).badArgument("append(256)", "append(-1)");
        Doc.run("EXCEPTIONS", sentence).after(OFFICE).noSuch("sheet(3,8)", "drawnIn(3,-1)", "printed(4,9)", "work(2,5)",
            "revise(3,0)", "ifRevised(3,0,4)", "stamp(0,3)", "stamp(3,3)", "build(0,12)", "build(1,12)", "build(3,-1)",
            "restore(2)");
        Doc.run("EXCEPTIONS", sentence).after(FULL_OFFICE).noSuch("draw(10)", "draw(-2)", "print(10,0)", "print(0,4)", "build(24,0)",
            "build(0,12)");
        Doc.run("EXCEPTIONS", sentence).after(LAST_REVISION).badArgument("revise(1,0)", "revise(1,4096)", "ifRevised(1,0,0)",
            "ifRevised(1,1,4)").noSuch("revise(2,0)", "ifRevised(2,0,4)");
    }

    private static void changesNothing() {
        Doc.run("EXCEPTIONS", "A call that throws an exception changes nothing.");
        refused(OFFICE, NO_SUCH, "sheet(3,0)", "field(3,0)", "field(0,12)", "drawnIn(3,0)", "printed(4,0)", "work(2,0)", "draw(3)",
            "draw(-2)", "revise(3,1)", "revise(-1,1)", "check(3)", "print(3,0)", "print(0,4)", "print(0,-1)", "stamp(4,0)",
            "stamp(2,3)", "back(4)", "build(4,0)", "build(2,12)", "mend(2)", "truePrint(4,0)", "truePrint(0,3)", "ifRevised(3,1,0)",
            "common(3,0)", "common(0,3)", "save(2)", "save(-1)", "restore(2)", "restore(-1)");
        refused(OFFICE, BAD_ARGUMENT, "append(-1)", "append(256)", "about(10)", "sheet(0,8)", "drawnIn(0,1)", "printed(0,9)",
            "work(0,5)", "setting(3)", "revise(0,0)", "revise(0,4096)", "run(0)", "run(31)", "set(3,0)", "set(0,21)", "set(2,-1)",
            "ifRevised(0,0,0)", "ifRevised(0,1,4)", "coming(0)", "coming(31)", "fetch(-1)", "runScript(0,0)", "runScript(1,-1)",
            "runScript(1,1000000)", "simulate(0,0)", "simulate(0,81)");
        refused(OFFICE, NOT_NOW, "load()", "check(1)", "stamp(0,0)", "stamp(3,0)", "back(3)", "build(0,0)", "build(1,0)",
            "build(3,0)", "mend(1)", "restore(1)");
        refused(FULL_TEXT, NOT_NOW, "append(0)", "load()", "undo()");
        refused(FULL_OFFICE, NOT_NOW, "draw(-1)", "draw(0)", "print(0,0)", "build(0,0)", "mend(29)", "restore(1)");
        refused(LAST_REVISION, NOT_NOW, "revise(1,1)", "ifRevised(1,1,0)");
        refused(RESTORED, NOT_NOW, "undo()", "restore(1)", "load()");
    }

    private static void refused(String[] before, String how, String... refused) {
        for (String call : refused) {
            TrueSheets one = office(before);
            Run.check(call + " answered", Run.answer(one, call), how);
            same(call, one, office(before));
        }
    }

    private static void looksChangeNothing() {
        Doc.run("the face", "what would be; these and all following methods up to the save slots change nothing.");
        for (String[] before : new String[][] {OFFICE, FULL_OFFICE, LAST_REVISION, RESTORED}) {
            for (String call : calls("truePrint(2,1)", "ifRevised(0,4095,0)", "ifRevised(0,4095,1)", "ifRevised(0,4095,2)",
                    "ifRevised(0,1,3)", "coming(1)", "coming(30)", "fetch(0)", "worst()", "common(0,0)",
                    "runScript(3,100000200000500030)", "runScript(2,700000600000)", "simulate(5,80)", "simulate(-9,80)")) {
                TrueSheets one = office(before);
                Run.answer(one, call);
                same(call, one, office(before));
            }
        }
    }

    private static TrueSheets office(String[] before) {
        TrueSheets sheets = new TrueSheets();
        for (String call : before) {
            Run.check(call + " is done", Run.answer(sheets, call).startsWith("throws."), false);
        }
        return sheets;
    }

    /** Compares all that can be seen of two objects, then all the states that are remembered, then what is saved. */
    private static void same(String call, TrueSheets one, TrueSheets other) {
        List<String> looks = looks();
        for (int i = 0; i < 14; i++) {
            looks.addAll(List.of("undo()", "about(0)", "about(1)", "about(5)", "about(7)", "about(8)"));
        }
        looks.addAll(List.of("undo()", "restore(0)", "about(8)", "about(0)", "restore(1)", "errorPosition()", "clearText()"));
        for (String look : looks) {
            Run.check(look + " behind " + call, Run.answer(one, look), Run.answer(other, look));
        }
    }

    private static List<String> looks() {
        List<String> looks = new ArrayList<>(List.of("errorPosition()", "setting(0)", "setting(1)", "setting(2)", "worst()"));
        addAll(looks, "about(#)", 10);
        for (int i = 0; i < 3; i++) {
            addAll(looks, "sheet(" + i + ",#)", 8);
            addAll(looks, "printed(" + i + ",#)", 9);
        }
        for (int i = 0; i < 2; i++) {
            addAll(looks, "field(" + i + ",#)", 12);
            addAll(looks, "work(" + i + ",#)", 5);
        }
        addAll(looks, "printed(23,#)", 9);
        addAll(looks, "work(29,#)", 5);
        addAll(looks, "fetch(#)", 3);
        return looks;
    }

    private static void addAll(List<String> looks, String call, int count) {
        for (int i = 0; i < count; i++) {
            looks.add(call.replace("#", "" + i));
        }
    }
}
