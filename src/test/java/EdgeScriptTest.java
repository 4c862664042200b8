import java.util.HashSet;
import java.util.Set;
import java.util.function.IntPredicate;

/** The boundary cases of the promises 30 and 31, a run for each sentence. */
public final class EdgeScriptTest {
    /** A turn whose x is negative as a long, and whose r is therefore great. */
    private static final int HIGH = 1 << 30;

    public static void main(String[] args) {
        scriptRange();
        scriptGroups();
        commandsOfSheets();
        commandsOfPrints();
        commandsOfDaysAndWorks();
        commandsThatFail();
        allGroups();
        simulateRange();
        simulateTurnsCounted();
        simulateTurnsOfSheets();
        simulateTurnsOfPrints();
        simulateTurnsOfWorks();
        simulateDays();
        simulateResult();
        Doc.allTested(30, 31);
        Run.end("EdgeScriptTest");
    }

    private static String script(long... groups) {
        StringBuilder digits = new StringBuilder();
        for (long group : groups) {
            digits.append(String.format("%06d", group));
        }
        return "runScript(" + groups.length + "," + digits + ")";
    }

    private static void scriptRange() {
        Doc.promise(30, "`n`: number of commands, 1 to 3").range(1, 3, "runScript(#,0)").due(0, "runScript(1,0)", "runScript(3,0)")
            .due(-1, "runScript(1,500001)", "runScript(3,500001500001500001)");
        Doc.promise(30, "`script`: the commands, a number of at most 6 * n digits (0 or more)")
            .due(0, "runScript(1,999999)", "runScript(2,999999999999)", "runScript(3,999999999999999999)", "runScript(1,0)",
                "runScript(2,0)", "runScript(3,0)")
            .badArgument("runScript(1,1000000)", "runScript(2,1000000000000)", "runScript(3,1000000000000000000)",
                "runScript(1,-1)", "runScript(2,-1)", "runScript(3,-1)");
        Doc.promise(30, "Throws `IllegalArgumentException` if n is out of range, or if script is negative or has more than 6 * n "
                + "digits").badArgument("runScript(0,0)", "runScript(4,0)", "runScript(-1,500001)", "runScript(2147483647,1)",
                "runScript(1,500001500001)", "runScript(3,9223372036854775807)", "runScript(3,-9223372036854775808)",
                "runScript(1,-500001)", "runScript(1,4294967296)", "runScript(1,4295467297)").notNow("undo()");
        Doc.promise(30, "A script has 1 to 3 commands").due(-1, script(500001), script(500001, 500030),
            script(500001, 500002, 500003));
    }

    private static void scriptGroups() {
        Doc.promise(30, "each is a group of six decimal digits d1 to d6, and the first command is the highest group of the number "
                + "(with zeros before it, if it has fewer digits).")
            .due(0, "runScript(1,99999)", "runScript(1,50001)", "runScript(2,500001)", "runScript(3,500001500001)",
                "runScript(2,99999500001)", "runScript(2,50001500001)").after("draw(-1)", "print(0,0)")
            .due(-1, script(600000, 100000, 200000)).due(1, script(600000, 600000)).due(2, script(600000, 200000, 600000))
            .due(-1, script(600000, 200000, 601000)).due(1, script(500001, 0, 500001)).due(2, script(500001, 500001, 0));
        Doc.promise(30, "Runs a script on a copy of the state.").after("draw(-1)", "draw(0)", "print(1,0)", "set(1,0)", "save(1)")
            .due(-1, script(110000, 700000, 500030), script(200000, 600000, 601000), script(300200, 400000, 110000))
            .due(0, "about(7)", "about(8)", "about(9)", "about(5)", "sheet(1,1)", "printed(0,4)").due(1, "about(1)", "about(2)")
            .due(-1, "printed(0,6)").due(0, "restore(1)").due(1, "about(1)");
        Doc.promise(30, "Returns the index, from 0, of the first command that fails; NONE if all succeed.")
            .due(-1, script(500001), script(500001, 500001), script(500001, 500001, 500001)).due(0, script(0, 0, 0),
                script(0, 500001, 500001), script(0)).due(1, script(500001, 0, 0), script(500001, 0))
            .due(2, script(500001, 500001, 0)).after("draw(-1)").due(1, script(200000, 301000, 302000));
    }

    private static void commandsOfSheets() {
        Run revise = Doc.promise(30, "1 s 0 f f 0: revise(s, the set of the field ff alone).").after("set(1,0)");
        for (int s = 0; s < 10; s++) {
            revise.due(0, script(100000 + 10000 * s)).after("draw(-1)").due(-1, script(100000 + 10000 * s));
        }
        revise.due(-1, script(100110), script(190110)).due(0, script(100120), script(100320), script(100990));
        revise.after("print(0,0)", "build(0,0)", "build(0,11)", "build(0,10)").due(0, script(100120, 800000))
            .due(1, script(100000, 800000), script(100110, 800000)).due(-1, script(100010, 800000), script(100110, 800001))
            .due(2, script(100000, 100110, 800001)).due(-1, script(100000, 100110, 800002), script(100000, 100000, 800001));
        Doc.promise(30, "1 s 0 f f 0: revise(s, the set of the field ff alone).").after("draw(-1)").times(98, "revise(0,1)")
            .due(1, script(100000, 100000)).after("revise(0,1)").due(0, script(100000));
        Run print = Doc.promise(30, "2 s t 0 0 0: print(s, t).").due(0, script(200000)).after("draw(-1)").due(-1, script(200000),
            script(203000)).due(0, script(204000), script(209000), script(210000), script(290000));
        print.times(23, "print(0,0)").due(-1, script(200000)).due(1, script(200000, 200000)).due(0, script(623000))
            .due(-1, script(203000, 623000)).after("print(0,0)").due(0, script(200000)).due(1, script(600000, 200000));
        Doc.promise(30, "7 s 0 0 0 0: check(s).").due(0, script(700000)).after("draw(-1)", "draw(0)").due(0, script(700000),
                script(710000), script(720000), script(790000)).due(-1, script(110000, 700000))
            .due(1, script(110000, 710000)).after("revise(1,1)").due(-1, script(700000)).due(1, script(700000, 700000));
        Run last = Doc.promise(30, "7 s 0 0 0 0: check(s).").times(9, "draw(-1)").after("draw(8)", "revise(9,1)");
        last.due(-1, script(780000)).due(0, script(790000), script(770000));
    }

    private static void commandsOfPrints() {
        Run stamp = Doc.promise(30, "3 p p h 0 0: stamp(pp, h).").after("draw(-1)").due(0, script(300000)).after("print(0,0)")
            .due(-1, script(300000), script(300200), script(300000, 300000), script(300200, 900001))
            .due(0, script(300300), script(300900), script(301000)).due(1, script(600000, 300000), script(100000, 300000));
        stamp.times(23, "print(0,0)").due(-1, script(323200), script(310000)).due(0, script(324000), script(399000), script(323300))
            .due(-1, script(323100, 923001), script(323100, 903000)).due(1, script(323100, 903001));
        Run build = Doc.promise(30, "4 p p f f 0: build(pp, ff).").after("draw(-1)", "set(1,0)").due(0, script(400000))
            .after("print(0,0)").due(-1, script(400000), script(400110)).due(0, script(400120), script(400320), script(400990),
                script(401000)).due(1, script(600000, 400000)).due(2, script(400110, 100110, 800000))
            .due(-1, script(400110, 100100, 800000));
        build.times(29, "build(0,0)").due(-1, script(400000)).due(1, script(400000, 400000)).times(23, "print(0,0)")
            .due(-1, script(423110)).due(0, script(424000)).after("build(0,0)").due(0, script(400000));
        Run back = Doc.promise(30, "6 p p 0 0 0: back(pp).").due(0, script(600000)).after("draw(-1)", "print(0,0)")
            .due(-1, script(600000)).due(0, script(601000), script(699000)).due(1, script(600000, 600000));
        back.times(23, "print(0,0)").due(-1, script(623000), script(610000, 620000, 612000)).due(0, script(624000))
            .after("back(10)").due(0, script(610000)).due(-1, script(601000));
        Run mayBuild = Doc.promise(30, "9 p p 0 0 b: succeeds if the print pp may be built by with b as 1, if it may not with b as 0.")
            .due(0, script(900000), script(900001)).after("draw(-1)", "print(0,0)").due(-1, script(900000)).due(0, script(900001),
                script(900002), script(900009), script(901000), script(901001)).due(-1, script(300000, 900001))
            .due(1, script(300000, 900000));
        mayBuild.times(23, "print(0,0)").after("set(1,0)").due(-1, script(923001)).due(0, script(923000), script(924000),
            script(924001), script(999000)).due(-1, script(623000, 923000), script(100000, 923000), script(623000, 922001));
    }

    private static void commandsOfDaysAndWorks() {
        Doc.promise(30, "5 0 0 0 n n: run(nn).").due(-1, script(500001), script(500009), script(500010), script(500030),
                script(500030, 500030)).due(0, script(500000), script(500031), script(500099), script(500100), script(501001),
                script(510001)).due(1, script(500001, 500000));
        Run wrong = Doc.promise(30, "8 0 0 0 n n: succeeds if at most nn works are wrong.").due(-1, script(800000), script(800099))
            .after("draw(-1)", "set(1,0)", "print(0,0)").times(30, "build(0,3)").due(-1, script(800000));
        wrong.due(1, script(100030, 800000), script(100030, 800029)).due(-1, script(100030, 800030), script(100030, 800099))
            .after("revise(0,8)").due(0, script(800000), script(800029)).due(-1, script(800030), script(800031)).after("mend(7)")
            .due(-1, script(800029)).due(0, script(800028), script(800129), script(801029), script(810029));
        Doc.promise(30, "ff, pp and nn are decimal numbers.").after("draw(-1)", "set(1,0)").times(12, "print(0,0)")
            .due(-1, script(100100), script(611000), script(400110), script(411100), script(500012), script(911001))
            .due(0, script(100130), script(613000), script(612000), script(400120), script(500040), script(912001));
    }

    private static void commandsThatFail() {
        Doc.promise(30, "The commands 1 to 7 fail if the method would throw an exception").due(0, script(100000), script(200000),
                script(300000), script(400000), script(500000), script(600000), script(700000)).after("draw(-1)", "print(0,0)")
            .due(0, script(400000), script(700000), script(100120), script(204000), script(300300), script(500031))
            .after("back(0)").due(0, script(600000), script(300000)).due(-1, script(100000), script(200000), script(500030));
        Doc.promise(30, "commands with prints that do not exist fail").after("draw(-1)", "set(1,0)").due(0, script(300000),
                script(400000), script(600000), script(900000), script(900001)).after("print(0,0)").due(0, script(301000),
                script(401000), script(601000), script(901000), script(901001)).due(-1, script(300000), script(400000),
                script(600000), script(900001), script(200000, 901001));
        Doc.promise(30, "and so does any other group").due(0, script(0), script(1), script(99999), script(50001), script(10000));
        // the digit at each of these places must be 0 in the command, which succeeds as it stands
        String sentence = "(also one with another digit where a 0 is written, or a b above 1)";
        String[] commands = {"110000 25", "200000 345", "300000 45", "400000 5", "500001 123", "600000 345", "700000 2345",
            "800009 123", "900001 34"};
        for (String command : commands) {
            Run run = Doc.promise(30, sentence).after("draw(-1)", "draw(0)", "draw(0)", "set(1,0)", "print(1,0)", "print(0,0)",
                "print(0,0)", "revise(2,1)");
            String group = command.substring(0, 6);
            run.due(-1, "runScript(1," + group + ")");
            for (char place : command.substring(7).toCharArray()) {
                for (char digit = '1'; digit <= '9'; digit++) {
                    StringBuilder other = new StringBuilder(group);
                    other.setCharAt(place - '0', digit);
                    run.due(0, "runScript(1," + other + ")");
                }
            }
        }
        Doc.promise(30, sentence).after("draw(-1)", "print(0,0)").due(-1, script(900000)).due(0, script(900002), script(900003),
            script(900009)).due(-1, script(800000)).due(0, script(800100), script(801000), script(810000));
    }

    /** Of all groups just as many succeed in one office as its sheets, prints and works allow. */
    private static void allGroups() {
        int[] succeeded = new int[10];
        TrueSheets sheets = null;
        for (int group = 0; group <= 999999; group++) {
            if (group % 400 == 0) {
                sheets = officeOfAllGroups();
            }
            if (sheets.runScript(1, group) == -1) {
                succeeded[group / 100000]++;
            }
        }
        // 4 sheets; 5 prints, 4 of them out, 3 not recalled, 2 of these to be built by; 1 to check; 1 wrong
        int[] due = {0, 4 * 12, 4 * 4, 3 * 3, 2 * 12, 30, 4, 1, 99, 5};
        for (int d1 = 0; d1 < 10; d1++) {
            Run.check("groups that succeed and begin with " + d1, succeeded[d1], due[d1]);
        }
    }

    private static TrueSheets officeOfAllGroups() {
        TrueSheets sheets = new TrueSheets();
        String[] calls = {"set(1,0)", "draw(-1)", "draw(0)", "draw(-1)", "draw(-1)", "print(1,0)", "build(0,4)", "build(0,5)",
            "revise(1,16)", "print(0,1)", "print(1,2)", "print(2,3)", "print(2,0)", "back(4)"};
        for (String call : calls) {
            Run.answer(sheets, call);
        }
        return sheets;
    }

    private static void simulateRange() {
        Doc.promise(31, "`seed`: any long").due(0, "simulate(0,80)", "simulate(-1,80)", "simulate(9223372036854775807,80)",
            "simulate(-9223372036854775808,80)", "simulate(4294967296,1)");
        Doc.promise(31, "`m`: number of turns, 1 to 80").range(1, 80, "simulate(0,#)");
        Doc.promise(31, "Throws `IllegalArgumentException` if m is out of range").badArgument("simulate(0,0)", "simulate(0,81)",
            "simulate(9223372036854775807,-1)", "simulate(0,2147483647)", "simulate(0,-2147483648)").notNow("undo()");
    }

    /**
     * In an office whose 24 prints have come back, whose sheet has the revision 99, and whose 30 works are
     * wrong, no turn brings anything but those that mend.
     */
    private static void simulateTurnsCounted() {
        String sentence = "Each turn first replaces x by x * 6364136223846793005L + 1442695040888963407L (with long overflow), and "
            + "r = (int) (x >>> 33) is computed.";
        long[] seeds = {0, 1, -1, 7, Long.MAX_VALUE, Long.MIN_VALUE, 0x123456789abcdefL, -6364136223846793005L};
        for (long seed : seeds) {
            Run run = Doc.promise(31, sentence).after("draw(-1)", "set(1,0)").times(24, "print(0,0)").times(30, "build(0,0)");
            for (int p = 0; p < 24; p++) {
                run.after("back(" + p + ")");
            }
            run.times(99, "revise(0,1)");
            int[] turns = Turns.of(seed, 80);
            Set<Integer> mended = new HashSet<>();
            for (int m = 1; m <= 80; m++) {
                if (turns[m - 1] % 16 == 13) {
                    mended.add(turns[m - 1] / 16 % 30);
                }
                run.due(1000 * (30 - mended.size()), "simulate(" + seed + "," + m + ")");
            }
        }
    }

    /** A simulation of m turns whose first one has this r, and those behind it are as wanted. */
    private static String simulate(int m, int r, IntPredicate... later) {
        return "simulate(" + Turns.seed(r, later) + "," + m + ")";
    }

    private static void simulateTurnsOfSheets() {
        // a sheet under 8 that is revised lets 8 be checked, so that nothing is built by its print
        Run draw = Doc.promise(31, "0: draw(r / 16 % 10).").times(9, "draw(-1)").after("set(1,0)", "print(8,0)", "print(0,0)");
        for (int least : new int[] {0, HIGH}) {
            draw.due(0, simulate(4, Turns.from(least, Turns.draw(8)), Turns.reviseField0(9), Turns.build0(0), Turns.reviseField0(8)))
                .due(1000, simulate(4, Turns.from(least, Turns.draw(9)), Turns.reviseField0(9), Turns.build0(0),
                    Turns.reviseField0(8)))
                .due(0, simulate(4, Turns.from(least, Turns.draw(0)), Turns.reviseField0(9), Turns.build0(1), Turns.reviseField0(0)))
                .due(1000, simulate(4, Turns.from(least, Turns.draw(1)), Turns.reviseField0(9), Turns.build0(1),
                    Turns.reviseField0(0)));
        }
        Run revise = Doc.promise(31, "1 and 2: revise(r / 16 % 10, 1 + r / 256 % 4095).").times(10, "draw(-1)").after("set(1,0)",
            "print(9,0)", "print(0,0)");
        for (int f = 0; f < 12; f++) {
            revise.after("build(0," + f + ")");
        }
        revise.after("build(1,0)");
        for (int kind = 1; kind <= 2; kind++) {
            for (int fields : new int[] {1, 2, 2047, 2048, 4094, 4095}) {
                for (int least : new int[] {0, HIGH}) {
                    int r = Turns.from(least, Turns.revise(kind, 9, fields));
                    revise.due(1000 * Integer.bitCount(fields), simulate(1, r));
                }
            }
            revise.due(1000, simulate(1, Turns.from(0, Turns.revise(kind, 0, 4095))))
                .due(0, simulate(1, Turns.from(0, Turns.revise(kind, 8, 4095))));
        }
        Run check = Doc.promise(31, "3: check(r / 16 % 10).").times(8, "draw(-1)").after("draw(0)", "draw(7)", "set(1,0)",
            "print(7,0)", "print(0,0)", "revise(9,1)", "revise(8,1)", "revise(6,1)");
        for (int least : new int[] {0, HIGH}) {
            check.due(1000, simulate(3, Turns.from(least, Turns.check(7)), Turns.build0(0), Turns.reviseField0(7)))
                .due(1000, simulate(3, Turns.from(least, Turns.check(0)), Turns.build0(1), Turns.reviseField0(0)));
            for (int other : new int[] {0, 6, 8, 9}) {
                check.due(0, simulate(3, Turns.from(least, Turns.check(other)), Turns.build0(0), Turns.reviseField0(7)));
            }
        }
    }

    private static void simulateTurnsOfPrints() {
        String sentence = "4 to 6: print(r / 16 % 10, r / 256 % 4).";
        Run first = Doc.promise(31, sentence).after("set(1,0)").times(9, "draw(-1)");
        Run last = Doc.promise(31, sentence).after("set(1,0)").times(10, "draw(-1)").times(23, "print(5,3)");
        for (int kind = 4; kind <= 6; kind++) {
            for (int least : new int[] {0, HIGH}) {
                first.due(1000, simulate(3, Turns.from(least, Turns.print(kind, 0)), Turns.build0(0), Turns.reviseField0(0)))
                    .due(0, simulate(3, Turns.from(least, Turns.print(kind, 0)), Turns.build0(1), Turns.reviseField0(0)))
                    .due(0, simulate(3, Turns.from(least, Turns.print(kind, 9)), Turns.build0(0), Turns.reviseField0(9)));
                last.due(1000, simulate(3, Turns.from(least, Turns.print(kind, 9)), Turns.build0(23), Turns.reviseField0(9)))
                    .due(0, simulate(3, Turns.from(least, Turns.print(kind, 8)), Turns.build0(23), Turns.reviseField0(9)));
            }
        }
        sentence = "7 and 8: stamp(r / 16 % 24, r / 512 % 3).";
        Run stamp = Doc.promise(31, sentence).after("draw(-1)", "set(1,2)").times(24, "print(0,0)").after("stamp(0,1)",
            "stamp(23,1)", "stamp(22,1)");
        for (int kind = 7; kind <= 8; kind++) {
            for (int hand = 0; hand <= 2; hand++) {
                int due = hand == 1 ? 0 : 1000;
                for (int least : new int[] {0, 1000000, 300000000, HIGH, HIGH + 123456789, Integer.MAX_VALUE - 100000}) {
                    stamp.due(due, simulate(3, Turns.from(least, Turns.stamp(kind, 0, hand)), Turns.build0(0),
                            Turns.reviseField0(0)), simulate(3, Turns.from(least, Turns.stamp(kind, 23, hand)), Turns.build0(23),
                            Turns.reviseField0(0)))
                        .due(0, simulate(3, Turns.from(least, Turns.stamp(kind, 22, hand)), Turns.build0(23),
                            Turns.reviseField0(0)));
                }
            }
        }
        sentence = "9: back(r / 16 % 24).";
        Run back = Doc.promise(31, sentence).after("draw(-1)", "draw(-1)", "print(1,0)").times(22, "print(0,0)").after("print(1,0)",
            "set(0,0)", "revise(1,1)");
        for (int least : new int[] {0, HIGH}) {
            back.due(5, simulate(2, Turns.from(least, Turns.back(0)), Turns.run(14, 1)), simulate(2, Turns.from(least,
                Turns.back(23)), Turns.run(15, 1))).due(10, simulate(2, Turns.from(least, Turns.back(1)), Turns.run(14, 1)),
                simulate(2, Turns.from(least, Turns.back(22)), Turns.run(14, 1)));
            back.due(0, simulate(3, Turns.from(least, Turns.back(0)), Turns.back(23), Turns.run(14, 5)));
        }
    }

    private static void simulateTurnsOfWorks() {
        Run build = Doc.promise(31, "10 to 12: build(r / 16 % 24, r / 512 % 12).").after("draw(-1)", "draw(-1)", "set(1,0)",
            "print(1,0)").times(22, "print(0,0)").after("print(1,0)");
        for (int kind = 10; kind <= 12; kind++) {
            for (int p : new int[] {0, 23}) {
                for (int f : new int[] {0, 11}) {
                    int r = Turns.from(p == 0 ? 0 : HIGH, Turns.build(kind, p, f));
                    build.due(1000, simulate(2, r, Turns.revise(1, 1, 1 << f)), simulate(2, r, Turns.revise(2, 1, 1 << f)))
                        .due(0, simulate(2, r, Turns.revise(1, 1, 4095 - (1 << f))), simulate(2, r, Turns.reviseField0(0)));
                }
            }
        }
        String sentence = "13: mend(r / 16 % 30).";
        for (int wrong : new int[] {0, 29}) {
            Run mend = Doc.promise(31, sentence).after("draw(-1)", "set(1,0)", "print(0,0)");
            for (int w = 0; w < 30; w++) {
                mend.after("build(0," + (w == wrong ? 1 : 0) + ")");
            }
            mend.due(0, simulate(1, Turns.from(0, Turns.mend(wrong)))).after("revise(0,2)");
            for (int w : new int[] {0, 1, 28, 29}) {
                mend.due(w == wrong ? 0 : 1000, simulate(1, Turns.from(0, Turns.mend(w))), simulate(1, Turns.from(HIGH,
                    Turns.mend(w))));
            }
        }
        Doc.promise(31, "What would throw an exception is left out.").after("draw(-1)", "set(1,0)", "print(0,0)", "build(0,0)")
            .due(1000, simulate(2, Turns.from(0, Turns.mend(0)), Turns.reviseField0(0)), simulate(2, Turns.from(0, Turns.mend(1)),
                Turns.reviseField0(0)), simulate(2, Turns.from(0, Turns.draw(9)), Turns.reviseField0(0)),
                simulate(2, Turns.from(0, Turns.revise(1, 1, 1)), Turns.reviseField0(0)),
                simulate(2, Turns.from(0, Turns.check(0)), Turns.reviseField0(0)),
                simulate(2, Turns.from(0, Turns.print(4, 9)), Turns.reviseField0(0)),
                simulate(2, Turns.from(0, Turns.stamp(7, 1, 0)), Turns.reviseField0(0)),
                simulate(2, Turns.from(0, Turns.back(23)), Turns.reviseField0(0)),
                simulate(2, Turns.from(0, Turns.build(10, 1, 0)), Turns.reviseField0(0)));
    }

    private static void simulateDays() {
        Run run = Doc.promise(31, "14 and 15: run(1 + r / 16 % 5).").after("draw(-1)", "print(0,0)", "set(0,0)", "revise(0,1)");
        for (int kind = 14; kind <= 15; kind++) {
            for (int days = 1; days <= 5; days++) {
                run.due(5 * days, simulate(1, Turns.from(0, Turns.run(kind, days))), simulate(1, Turns.from(HIGH,
                    Turns.run(kind, days))));
            }
        }
        Doc.promise(31, "and r = (int) (x >>> 33) is computed.").after("draw(-1)", "print(0,0)", "set(0,0)", "revise(0,1)")
            .due(15, simulate(1, Integer.MAX_VALUE)).due(0, simulate(1, 0), simulate(1, HIGH));
        Doc.promise(31, "Simulates m turns on a copy of the state.").after("draw(-1)", "print(0,0)", "set(0,0)", "revise(0,1)")
            .due(15, simulate(1, Integer.MAX_VALUE), simulate(1, Integer.MAX_VALUE)).due(0, "about(8)", "about(9)").due(3, "undo()");
    }

    private static void simulateResult() {
        String sentence = "Returns 1000 * (the wrong works at the end) + (what overdue prints cost in them, or 999 if it is more).";
        cost(sentence, 9, 37, 3, 999);
        cost(sentence, 8, 25, 5, 999);
        cost(sentence, 2, 99, 5, 990);
        cost(sentence, 1, 0, 5, 0);
        cost(sentence, 24, 99, 5, 999);
        Run most = Doc.promise(31, sentence).after("draw(-1)", "set(1,0)", "set(0,0)", "set(2,99)").times(24, "print(0,0)")
            .times(30, "build(0,0)").after("revise(0,1)").due(30999, simulate(1, Turns.from(0, Turns.run(14, 5))))
            .due(29000, simulate(1, Turns.from(0, Turns.mend(5))));
        most.due(29999, simulate(2, Turns.from(0, Turns.mend(5)), Turns.run(15, 1))).after("run(30)").due(30000,
            simulate(1, Turns.from(0, Turns.draw(9)))).after("mend(0)").due(29000, simulate(1, Turns.from(0, Turns.draw(9))));
        Doc.promise(31, sentence).due(0, simulate(1, 0), simulate(1, HIGH), simulate(1, Integer.MAX_VALUE));
    }

    /** What is due for one turn of so many days, also behind days that have cost something already. */
    private static void cost(String sentence, int prints, int ofDay, int days, int due) {
        Run run = Doc.promise(31, sentence).after("draw(-1)", "set(0,0)", "set(2," + ofDay + ")").times(prints, "print(0,0)")
            .after("revise(0,1)").due(due, simulate(1, Turns.from(0, Turns.run(14, days))));
        run.after("run(7)").due(due, simulate(1, Turns.from(HIGH, Turns.run(15, days))));
    }
}
