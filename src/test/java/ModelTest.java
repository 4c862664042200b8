import java.util.ArrayList;
import java.util.List;
import java.util.Random;

/** Runs of 500 calls each, drawn with fixed seeds, in which TrueSheets and the model must agree. */
public final class ModelTest {
    private static final int RUNS = 400;
    private static final int CALLS = 512;

    private final Random random;
    private final Model model = new Model();

    private ModelTest(long seed) {
        random = new Random(seed);
    }

    public static void main(String[] args) {
        for (int seed = 0; seed < RUNS; seed++) {
            new ModelTest(seed).compare(seed);
        }
        for (int seed = 0; seed < RUNS; seed++) {
            new ModelTest(seed).compareTexts(seed);
        }
        Run.end("ModelTest");
    }

    private void compare(int seed) {
        Run run = new Run("run of seed " + seed);
        List<String> calls = new ArrayList<>();
        int wildness = seed % 3;
        while (calls.size() < CALLS) {
            if (calls.size() == 0 && seed % 4 != 0) {
                addText(calls, office());
                calls.add("load()");
            }
            calls.add(call(wildness));
        }
        for (String call : calls.subList(0, CALLS)) {
            String got = run.answer(call);
            String want = model.answer(call);
            Run.check("run of seed " + seed + ": " + call, got, want);
            if (!got.equals(want)) {
                return;
            }
        }
    }

    private void compareTexts(int seed) {
        TrueSheets sheets = new TrueSheets();
        for (int i = 0; i < 3; i++) {
            List<String> calls = new ArrayList<>();
            String text = spoilt(office());
            calls.add("clearText()");
            addText(calls, text);
            calls.add("errorPosition()");
            calls.add("load()");
            calls.add("about(0)");
            calls.add("about(1)");
            calls.add("about(8)");
            for (String call : calls) {
                Run.check("text " + text + ": " + call, Run.answer(sheets, call), model.answer(call));
            }
        }
    }

    private static void addText(List<String> calls, String text) {
        for (int i = 0; i < text.length(); i++) {
            calls.add("append(" + (int) text.charAt(i) + ")");
        }
    }

    private String office() {
        StringBuilder text = new StringBuilder();
        int orders = 1 + random.nextInt(14);
        for (int i = 0; i < orders; i++) {
            String order = random.nextInt(3) == 0 ? "draw" + (random.nextBoolean() ? "" : "" + to(3)) : order();
            if (text.length() + order.length() > 110) {
                break;
            }
            text.append(i == 0 ? "" : ";").append(order);
        }
        return text.toString();
    }

    private String order() {
        switch (to(5)) {
            case 0:
                return "draw" + to(10);
            case 1:
                StringBuilder fields = new StringBuilder();
                for (int f = to(12); f < 12; f += 1 + to(6)) {
                    fields.append(fields.length() == 0 ? "" : ",").append(f);
                }
                return "rev" + to(4) + ":" + fields;
            case 2:
                return "print" + to(4) + "@" + to(4);
            case 3:
                return "stamp" + to(random.nextBoolean() ? 3 : 24) + "/" + to(3);
            default:
                return "run" + (1 + to(30));
        }
    }

    private String spoilt(String text) {
        StringBuilder spoilt = new StringBuilder(text);
        String signs = "draw;rev:,0123456789printstamp@/run 0123,,;";
        for (int i = to(3); i > 0; i--) {
            int at = to(spoilt.length() + 1);
            char sign = signs.charAt(to(signs.length()));
            int kind = to(3);
            if (kind == 0 || at == spoilt.length()) {
                spoilt.insert(at, sign);
            } else if (kind == 1) {
                spoilt.setCharAt(at, sign);
            } else {
                spoilt.deleteCharAt(at);
            }
        }
        return spoilt.substring(0, random.nextInt(4) == 0 ? to(spoilt.length() + 1) : spoilt.length());
    }

    private int to(int n) {
        return random.nextInt(n);
    }

    /** An argument that is mostly 0 to n - 1, and now and then just outside, or far from it. */
    private int about(int n) {
        int kind = to(40);
        return kind == 0 ? -1 : kind == 1 ? n : kind == 2 ? random.nextInt() : to(n);
    }

    private int sheet() {
        return about(to(3) == 0 ? 10 : 4);
    }

    private int print() {
        return about(to(3) == 0 ? 24 : 8);
    }

    private int fields() {
        return to(3) == 0 ? about(4097) : 1 << to(12);
    }

    private String call(int wildness) {
        int kind = to(100);
        if (kind < 6) {
            return "draw(" + (to(4) == 0 ? -1 : sheet()) + ")";
        } else if (kind < 12 + wildness) {
            return "revise(" + sheet() + "," + fields() + ")";
        } else if (kind < 16) {
            return "check(" + sheet() + ")";
        } else if (kind < 22) {
            return "print(" + sheet() + "," + about(4) + ")";
        } else if (kind < 28) {
            return "stamp(" + print() + "," + about(3) + ")";
        } else if (kind < 30) {
            return "back(" + print() + ")";
        } else if (kind < 38) {
            return "build(" + print() + "," + about(12) + ")";
        } else if (kind < 41) {
            return "mend(" + about(8) + ")";
        } else if (kind < 44) {
            return "run(" + (to(2) == 0 ? about(31) : 1 + to(3)) + ")";
        } else if (kind < 46) {
            int what = about(3);
            return "set(" + what + "," + (to(2) == 0 ? to(4) : about(100)) + ")";
        } else if (kind < 46 + 2 * wildness) {
            return "undo()";
        } else if (kind < 52) {
            return slotOrText();
        } else if (kind < 60) {
            return script();
        } else if (kind < 63) {
            return "simulate(" + random.nextLong() + "," + about(81) + ")";
        }
        return look();
    }

    private String slotOrText() {
        switch (to(12)) {
            case 0:
                return "load()";
            case 1:
                return "append(" + about(256) + ")";
            case 2:
                return "errorPosition()";
            case 3:
                return "clearText()";
            case 4:
            case 5:
                return "restore(" + about(2) + ")";
            case 6:
            case 7:
            case 8:
                return "save(" + about(2) + ")";
            default:
                return "undo()";
        }
    }

    private String script() {
        int n = 1 + to(3);
        StringBuilder digits = new StringBuilder("0");
        for (int i = 0; i < n; i++) {
            StringBuilder group = new StringBuilder(group());
            if (to(6) == 0) {
                group.setCharAt(to(6), (char) ('0' + to(10)));
            }
            digits.append(group);
        }
        return "runScript(" + (to(20) == 0 ? about(4) : n) + "," + (to(20) == 0 ? random.nextLong() : Long.parseLong(digits.toString())) + ")";
    }

    private String group() {
        switch (1 + to(9)) {
            case 1:
                return String.format("1%d0%02d0", to(4), to(13));
            case 2:
                return String.format("2%d%d000", to(4), to(5));
            case 3:
                return String.format("3%02d%d00", to(8), to(4));
            case 4:
                return String.format("4%02d%02d0", to(8), to(13));
            case 5:
                return String.format("5000%02d", to(32));
            case 6:
                return String.format("6%02d000", to(8));
            case 7:
                return String.format("7%d0000", to(4));
            case 8:
                return String.format("8000%02d", to(4));
            default:
                return String.format("9%02d00%d", to(8), to(2));
        }
    }

    private String look() {
        switch (to(14)) {
            case 0:
            case 1:
                return "about(" + about(10) + ")";
            case 2:
            case 3:
                return "sheet(" + sheet() + "," + about(8) + ")";
            case 4:
                return "field(" + sheet() + "," + about(12) + ")";
            case 5:
                return "drawnIn(" + sheet() + "," + about(4) + ")";
            case 6:
            case 7:
                return "printed(" + print() + "," + about(9) + ")";
            case 8:
                return "work(" + about(8) + "," + about(5) + ")";
            case 9:
                return "truePrint(" + about(4) + "," + sheet() + ")";
            case 10:
                return "ifRevised(" + sheet() + "," + fields() + "," + about(4) + ")";
            case 11:
                return to(2) == 0 ? "coming(" + about(31) + ")" : "setting(" + about(3) + ")";
            case 12:
                return to(2) == 0 ? "fetch(" + about(6) + ")" : "worst()";
            default:
                return "common(" + sheet() + "," + sheet() + ")";
        }
    }
}
