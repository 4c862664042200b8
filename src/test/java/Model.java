import java.util.ArrayDeque;
import java.util.ArrayList;
import java.util.Deque;
import java.util.List;
import java.util.TreeSet;
import java.util.regex.Matcher;
import java.util.regex.Pattern;

/**
 * The document once more, in lists and objects and as slowly as it reads, to compare TrueSheets
 * with. It shares no code and no way of holding the state with the program.
 */
final class Model {
    static final class Sheet {
        Sheet parent;
        int number;
        int revision;
        int[] drawn = new int[12];
        boolean toCheck;
    }

    static final class Print {
        Sheet sheet;
        int number;
        int revision;
        int site;
        int day;
        TreeSet<Integer> hands = new TreeSet<>();
        boolean out = true;
        Integer due;
    }

    static final class Work {
        int site;
        Sheet sheet;
        int field;
        int revision;

        boolean wrong() {
            return sheet.drawn[field] > revision;
        }
    }

    static final class State {
        List<Sheet> sheets = new ArrayList<>();
        List<Print> prints = new ArrayList<>();
        List<Work> works = new ArrayList<>();
        int[] settings = {3, 1, 5};
        int today;
        int cost;

        State copy() {
            State copy = new State();
            for (Sheet from : sheets) {
                Sheet to = new Sheet();
                to.parent = from.parent == null ? null : copy.sheets.get(from.parent.number);
                to.number = from.number;
                to.revision = from.revision;
                to.drawn = from.drawn.clone();
                to.toCheck = from.toCheck;
                copy.sheets.add(to);
            }
            for (Print from : prints) {
                Print to = new Print();
                to.sheet = copy.sheets.get(from.sheet.number);
                to.number = from.number;
                to.revision = from.revision;
                to.site = from.site;
                to.day = from.day;
                to.hands.addAll(from.hands);
                to.out = from.out;
                to.due = from.due;
                copy.prints.add(to);
            }
            for (Work from : works) {
                Work to = new Work();
                to.site = from.site;
                to.sheet = copy.sheets.get(from.sheet.number);
                to.field = from.field;
                to.revision = from.revision;
                copy.works.add(to);
            }
            copy.settings = settings.clone();
            copy.today = today;
            copy.cost = cost;
            return copy;
        }
    }

    private static final String FIELD = "(?:1[01]|[0-9])";
    private static final Pattern OFFICE = Pattern.compile("ORDER(?:;ORDER)*".replace("ORDER", "(?:draw[0-9]?|rev[0-9]:"
        + FIELD + "(?:," + FIELD + ")*|print[0-9]@[0-3]|stamp(?:1[0-9]|2[0-3]|[0-9])/[0-2]|run(?:30|[12][0-9]|[1-9]))"));
    private static final Pattern NUMBER_AND_SIGN = Pattern.compile("([a-z]+)([0-9]*)[:@/]?([0-9,]*)");

    private State now = new State();
    private String text = "";
    private final Deque<State> remembered = new ArrayDeque<>();
    private final State[] slots = new State[2];

    String answer(String call) {
        int open = call.indexOf('(');
        String inside = call.substring(open + 1, call.length() - 1);
        String[] written = inside.isEmpty() ? new String[0] : inside.split(",");
        long[] a = new long[3];
        for (int i = 0; i < written.length; i++) {
            a[i] = Long.parseLong(written[i].trim());
        }
        try {
            return String.valueOf(does(call.substring(0, open), a, (int) a[0], (int) a[1], (int) a[2]));
        } catch (IndexOutOfBoundsException | IllegalArgumentException | IllegalStateException e) {
            return "throws." + e.getClass().getSimpleName();
        }
    }

    private int does(String name, long[] raw, int a, int b, int c) {
        switch (name) {
            case "append": return append(a);
            case "clearText": int length = text.length(); text = ""; return length;
            case "errorPosition": return errorPosition(text);
            case "load": return load();
            case "undo": return undo();
            case "save": slot(a); slots[a] = now.copy(); return now.today;
            case "restore": return restore(a);
            case "runScript": return runScript(a, raw[1]);
            case "simulate": return simulate(raw[0], b);
            case "draw": case "revise": case "check": case "print": case "stamp": case "back": case "build":
            case "mend": case "run": case "set":
                State before = now.copy();
                int answer = act(now, name, a, b);
                remembered.addLast(before);
                if (remembered.size() > 14) {
                    remembered.removeFirst();
                }
                return answer;
            case "coming": return act(now.copy(), "run", a, 0);
            default: return looks(name, a, b, c);
        }
    }

    private static void exists(boolean it) {
        if (!it) {
            throw new IndexOutOfBoundsException();
        }
    }

    private static void range(int v, int least, int most) {
        if (v < least || v > most) {
            throw new IllegalArgumentException();
        }
    }

    private static void allowed(boolean it) {
        if (!it) {
            throw new IllegalStateException();
        }
    }

    private static void slot(int slot) {
        exists(slot == 0 || slot == 1);
    }

    private int append(int c) {
        range(c, 0, 255);
        allowed(text.length() < 120);
        text += (char) c;
        return text.length();
    }

    static int errorPosition(String text) {
        int position = -1;
        for (int i = 1; i <= text.length() && position < 0; i++) {
            Matcher matcher = OFFICE.matcher(text.substring(0, i));
            if (!matcher.matches() && !matcher.hitEnd()) {
                position = i - 1;
            }
        }
        String good = position < 0 ? text : text.substring(0, position);
        int unordered = notAscending(good);
        if (unordered >= 0) {
            return unordered;
        }
        return position >= 0 ? position : OFFICE.matcher(text).matches() ? -1 : text.length();
    }

    /** Where the first field ends that is not greater than the one before it; -1 without one. */
    private static int notAscending(String good) {
        int start = 0;
        for (String order : good.split(";", -1)) {
            if (order.startsWith("rev") && order.contains(":")) {
                int at = order.indexOf(':') + 1;
                int last = -1;
                for (String field : order.substring(at).split(",", -1)) {
                    at += field.length();
                    if (!field.isEmpty() && Integer.parseInt(field) <= last) {
                        return start + at;
                    }
                    last = field.isEmpty() ? last : Integer.parseInt(field);
                    at++;
                }
            }
            start += order.length() + 1;
        }
        return -1;
    }

    private int load() {
        allowed(errorPosition(text) == -1);
        now = new State();
        remembered.clear();
        slots[0] = null;
        slots[1] = null;
        int leftOut = 0;
        for (String order : text.split(";")) {
            Matcher parts = NUMBER_AND_SIGN.matcher(order);
            parts.matches();
            String word = parts.group(1);
            int first = parts.group(2).isEmpty() ? -1 : Integer.parseInt(parts.group(2));
            int second = 0;
            if (word.equals("rev")) {
                for (String field : parts.group(3).split(",")) {
                    second += (int) Math.pow(2, Integer.parseInt(field));
                }
            } else if (!parts.group(3).isEmpty()) {
                second = Integer.parseInt(parts.group(3));
            }
            leftOut += tries(now, word.equals("rev") ? "revise" : word, first, second) ? 0 : 1;
        }
        return leftOut;
    }

    private static boolean tries(State x, String name, int a, int b) {
        try {
            act(x, name, a, b);
            return true;
        } catch (IndexOutOfBoundsException | IllegalArgumentException | IllegalStateException e) {
            return false;
        }
    }

    private int undo() {
        allowed(!remembered.isEmpty());
        now = remembered.removeLast();
        return remembered.size();
    }

    private int restore(int a) {
        slot(a);
        allowed(slots[a] != null);
        now = slots[a].copy();
        remembered.clear();
        return now.today;
    }

    private static int act(State x, String name, int a, int b) {
        switch (name) {
            case "draw": return draw(x, a);
            case "revise": return revise(x, a, b);
            case "check": return check(x, a);
            case "print": return print(x, a, b);
            case "stamp": return stamp(x, a, b);
            case "back": return back(x, a);
            case "build": return build(x, a, b);
            case "mend": return mend(x, a);
            case "run": return run(x, a);
            default: return set(x, a, b);
        }
    }

    private static Sheet sheetOf(State x, int s) {
        exists(s >= 0 && s < x.sheets.size());
        return x.sheets.get(s);
    }

    private static Print printOf(State x, int p) {
        exists(p >= 0 && p < x.prints.size());
        return x.prints.get(p);
    }

    private static int draw(State x, int parent) {
        Sheet made = new Sheet();
        made.parent = parent == -1 ? null : sheetOf(x, parent);
        allowed(x.sheets.size() < 10);
        made.number = x.sheets.size();
        x.sheets.add(made);
        return made.number;
    }

    private static int revise(State x, int s, int fields) {
        Sheet sheet = sheetOf(x, s);
        range(fields, 1, 4095);
        allowed(sheet.revision != 99);
        sheet.revision += 1;
        for (int f = 0; f < 12; f++) {
            if (fields / (int) Math.pow(2, f) % 2 == 1) {
                sheet.drawn[f] = sheet.revision;
            }
        }
        sheet.toCheck = false;
        for (Sheet above = sheet.parent; above != null; above = above.parent) {
            above.toCheck = true;
        }
        int recalled = 0;
        for (Print print : x.prints) {
            if (print.sheet == sheet && print.out && print.due == null) {
                print.due = x.today + x.settings[0];
                recalled++;
            }
        }
        return recalled;
    }

    private static int check(State x, int s) {
        Sheet sheet = sheetOf(x, s);
        allowed(sheet.toCheck);
        sheet.toCheck = false;
        return (int) x.sheets.stream().filter(t -> t.toCheck).count();
    }

    private static int print(State x, int s, int site) {
        Print made = new Print();
        made.sheet = sheetOf(x, s);
        exists(site >= 0 && site <= 3);
        allowed(x.prints.size() < 24);
        made.number = x.prints.size();
        made.revision = made.sheet.revision;
        made.site = site;
        made.day = x.today;
        x.prints.add(made);
        return made.number;
    }

    private static int stamp(State x, int p, int hand) {
        Print print = printOf(x, p);
        exists(hand >= 0 && hand <= 2);
        allowed(print.out && print.due == null);
        print.hands.add(hand);
        return print.hands.size();
    }

    private static boolean overdue(State x, Print print) {
        return print.out && print.due != null && x.today > print.due;
    }

    private static boolean mayBuild(State x, Print print) {
        return print.out && print.due == null && print.hands.size() >= x.settings[1] && !print.sheet.toCheck;
    }

    private static int back(State x, int p) {
        Print print = printOf(x, p);
        allowed(print.out);
        int days = overdue(x, print) ? x.today - print.due : 0;
        print.out = false;
        return days;
    }

    private static int build(State x, int p, int f) {
        Print print = printOf(x, p);
        exists(f >= 0 && f <= 11);
        allowed(mayBuild(x, print) && x.works.size() < 30);
        Work made = new Work();
        made.site = print.site;
        made.sheet = print.sheet;
        made.field = f;
        made.revision = print.revision;
        x.works.add(made);
        return x.works.size() - 1;
    }

    private static int wrong(State x) {
        return (int) x.works.stream().filter(Work::wrong).count();
    }

    private static int mend(State x, int w) {
        exists(w >= 0 && w < x.works.size());
        Work work = x.works.get(w);
        allowed(work.wrong());
        work.revision = work.sheet.revision;
        return wrong(x);
    }

    private static int run(State x, int n) {
        range(n, 1, 30);
        int before = x.cost;
        for (int day = 0; day < n; day++) {
            x.today++;
            for (Print print : x.prints) {
                x.cost += overdue(x, print) ? x.settings[2] : 0;
            }
        }
        return x.cost - before;
    }

    private static int set(State x, int what, int v) {
        range(what, 0, 2);
        range(v, 0, new int[] {20, 3, 99}[what]);
        int previous = x.settings[what];
        x.settings[what] = v;
        return previous;
    }

    private int looks(String name, int a, int b, int c) {
        switch (name) {
            case "about": range(a, 0, 9); return about(a);
            case "sheet": Sheet s = sheetOf(now, a); range(b, 0, 7); return sheet(s, b);
            case "field": Sheet t = sheetOf(now, a); exists(b >= 0 && b < 12); return t.drawn[b];
            case "drawnIn": Sheet u = sheetOf(now, a); range(b, 0, u.revision); return fields(u, b, b);
            case "printed": Print p = printOf(now, a); range(b, 0, 8); return printed(p, b);
            case "work": return work(a, b);
            case "setting": range(a, 0, 2); return now.settings[a];
            case "truePrint": exists(a >= 0 && a <= 3); return truePrint(now, a, sheetOf(now, b));
            case "ifRevised": return ifRevised(a, b, c);
            case "fetch": return fetch(a);
            case "worst": return worst();
            case "common": return common(sheetOf(now, a), sheetOf(now, b));
            default: throw new AssertionError(name);
        }
    }

    private int about(int what) {
        switch (what) {
            case 0: return now.sheets.size();
            case 1: return now.prints.size();
            case 2: return (int) now.prints.stream().filter(p -> p.out).count();
            case 3: return (int) now.prints.stream().filter(p -> p.out && p.due != null).count();
            case 4: return (int) now.prints.stream().filter(p -> overdue(now, p)).count();
            case 5: return now.works.size();
            case 6: return wrong(now);
            case 7: return (int) now.sheets.stream().filter(s -> s.toCheck).count();
            case 8: return now.today;
            default: return now.cost;
        }
    }

    private static boolean isUnder(Sheet s, Sheet top) {
        return s.parent != null && (s.parent == top || isUnder(s.parent, top));
    }

    private int height(Sheet s) {
        int height = 1;
        for (Sheet t : now.sheets) {
            height = t.parent == s ? Math.max(height, 1 + height(t)) : height;
        }
        return height;
    }

    private int sheet(Sheet s, int what) {
        switch (what) {
            case 0: return s.parent == null ? -1 : s.parent.number;
            case 1: return s.revision;
            case 2: return s.toCheck ? 1 : 0;
            case 3: return (int) now.sheets.stream().filter(t -> isUnder(t, s)).count();
            case 4: return (int) now.sheets.stream().filter(t -> isUnder(s, t)).count();
            case 5: return (int) now.prints.stream().filter(p -> p.out && p.sheet == s).count();
            case 6: return height(s);
            default: return (int) now.works.stream().filter(w -> w.sheet == s && w.wrong()).count();
        }
    }

    private static int fields(Sheet s, int from, int to) {
        int set = 0;
        for (int f = 0; f < 12; f++) {
            set += s.drawn[f] >= from && s.drawn[f] <= to ? (int) Math.pow(2, f) : 0;
        }
        return set;
    }

    private int printed(Print p, int what) {
        switch (what) {
            case 0: return p.sheet.number;
            case 1: return p.revision;
            case 2: return p.site;
            case 3: return p.day;
            case 4: return p.hands.stream().mapToInt(hand -> (int) Math.pow(2, hand)).sum();
            case 5: return p.out ? 1 : 0;
            case 6: return p.due == null ? -1 : p.due;
            case 7: return mayBuild(now, p) ? 1 : 0;
            default: return 4095 - fields(p.sheet, p.revision + 1, 100);
        }
    }

    private int work(int a, int b) {
        exists(a >= 0 && a < now.works.size());
        range(b, 0, 4);
        Work w = now.works.get(a);
        return new int[] {w.site, w.sheet.number, w.field, w.revision, w.wrong() ? 1 : 0}[b];
    }

    private static int truePrint(State x, int site, Sheet sheet) {
        for (Print p : x.prints) {
            if (p.sheet.number == sheet.number && p.site == site && mayBuild(x, p)) {
                return p.number;
            }
        }
        return -1;
    }

    private int ifRevised(int s, int fields, int what) {
        Sheet sheet = sheetOf(now, s);
        range(fields, 1, 4095);
        range(what, 0, 3);
        State then = now.copy();
        int recalled = revise(then, s, fields);
        int[] numbers = {recalled, 0, 0, 0};
        for (int w = 0; w < now.works.size(); w++) {
            numbers[1] += !now.works.get(w).wrong() && then.works.get(w).wrong() ? 1 : 0;
        }
        for (int t = 0; t < now.sheets.size(); t++) {
            numbers[2] += !now.sheets.get(t).toCheck && then.sheets.get(t).toCheck ? 1 : 0;
        }
        for (int site = 0; site < 4; site++) {
            numbers[3] += truePrint(now, site, sheet) != -1 && truePrint(then, site, sheet) == -1 ? 1 : 0;
        }
        return numbers[what];
    }

    private int fetch(int k) {
        range(k, 0, Integer.MAX_VALUE);
        List<Print> wanted = new ArrayList<>();
        for (Print p : now.prints) {
            if (p.out && p.due != null) {
                wanted.add(p);
            }
        }
        wanted.sort((p, q) -> p.due.equals(q.due) ? p.number - q.number : p.due - q.due);
        return k < wanted.size() ? wanted.get(k).number : -1;
    }

    private int worst() {
        int worst = -1;
        long most = -1;
        for (int i = 3; i >= 0; i--) {
            int site = i;
            long overdue = now.prints.stream().filter(p -> p.site == site && overdue(now, p)).count();
            long wrong = now.works.stream().filter(w -> w.site == site && w.wrong()).count();
            if (overdue * 1000 + wrong >= most) {
                most = overdue * 1000 + wrong;
                worst = site;
            }
        }
        return worst;
    }

    private static int common(Sheet s, Sheet t) {
        for (Sheet up = s; up != null; up = up.parent) {
            if (up == t || isUnder(t, up)) {
                return up.number;
            }
        }
        return -1;
    }

    private int runScript(int n, long script) {
        range(n, 1, 3);
        String digits = String.valueOf(script);
        range(script < 0 || digits.length() > 6 * n ? -1 : 0, 0, 0);
        digits = "0".repeat(6 * n - digits.length()) + digits;
        State copy = now.copy();
        for (int i = 0; i < n; i++) {
            if (!command(copy, digits.substring(6 * i, 6 * i + 6))) {
                return i;
            }
        }
        return -1;
    }

    private static int number(String group, int from, int to) {
        return Integer.parseInt(group.substring(from - 1, to));
    }

    private static boolean command(State x, String g) {
        if (g.matches("1.0..0")) {
            int field = number(g, 4, 5);
            return field <= 11 && tries(x, "revise", number(g, 2, 2), (int) Math.pow(2, field));
        } else if (g.matches("2..000")) {
            return tries(x, "print", number(g, 2, 2), number(g, 3, 3));
        } else if (g.matches("3...00")) {
            return tries(x, "stamp", number(g, 2, 3), number(g, 4, 4));
        } else if (g.matches("4....0")) {
            return tries(x, "build", number(g, 2, 3), number(g, 4, 5));
        } else if (g.matches("5000..")) {
            return tries(x, "run", number(g, 5, 6), 0);
        } else if (g.matches("6..000")) {
            return tries(x, "back", number(g, 2, 3), 0);
        } else if (g.matches("7.0000")) {
            return tries(x, "check", number(g, 2, 2), 0);
        } else if (g.matches("8000..")) {
            return wrong(x) <= number(g, 5, 6);
        } else if (g.matches("9..00[01]")) {
            int print = number(g, 2, 3);
            return print < x.prints.size() && mayBuild(x, x.prints.get(print)) == g.endsWith("1");
        }
        return false;
    }

    private int simulate(long seed, int m) {
        range(m, 1, 80);
        State copy = now.copy();
        long x = seed;
        for (int turn = 0; turn < m; turn++) {
            x = x * 6364136223846793005L + 1442695040888963407L;
            turn(copy, (int) (x >>> 33));
        }
        return 1000 * wrong(copy) + (copy.cost - now.cost > 999 ? 999 : copy.cost - now.cost);
    }

    private static void turn(State x, int r) {
        String[] names = {"draw", "revise", "revise", "check", "print", "print", "print", "stamp", "stamp", "back",
            "build", "build", "build", "mend", "run", "run"};
        String name = names[r % 16];
        switch (name) {
            case "draw": case "check": tries(x, name, r / 16 % 10, 0); break;
            case "revise": tries(x, name, r / 16 % 10, 1 + r / 256 % 4095); break;
            case "print": tries(x, name, r / 16 % 10, r / 256 % 4); break;
            case "stamp": tries(x, name, r / 16 % 24, r / 512 % 3); break;
            case "back": tries(x, name, r / 16 % 24, 0); break;
            case "build": tries(x, name, r / 16 % 24, r / 512 % 12); break;
            case "mend": tries(x, name, r / 16 % 30, 0); break;
            default: tries(x, name, 1 + r / 16 % 5, 0); break;
        }
    }
}
