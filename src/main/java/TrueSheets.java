/**
 * A drawing office: sheets under other sheets, revisions with clouds, prints at sites, recalls, and
 * works that become wrong when their field is drawn anew.
 *
 * <p>Every state that is ever needed (the present one, the remembered ones, the saved ones, one to
 * try things on) is made once, in the constructor, and only copied over afterwards.
 */
public final class TrueSheets {
    public static final int NONE = -1;

    private static final int MAX_CODE = 255;
    private static final int MAX_TEXT = 120;
    private static final int MAX_SHEETS = 10;
    private static final int MAX_REVISION = 99;
    private static final int FIELDS = 12;
    private static final int ALL_FIELDS = 4095;
    private static final int MAX_PRINTS = 24;
    private static final int SITES = 4;
    private static final int HANDS = 3;
    private static final int MAX_WORKS = 30;
    private static final int MAX_DAYS = 30;
    private static final int MAX_REMEMBERED = 14;
    private static final int SLOTS = 2;

    private static final int SETTINGS = 3;
    private static final int RECALL_DAYS = 0;
    private static final int HANDS_TO_STAMP = 1;
    private static final int COST_OF_A_DAY = 2;

    private static final int MAX_COMMANDS = 3;
    private static final int GROUP = 1000000;
    private static final int MAX_TURNS = 80;

    // What an action answers instead of its result when it is refused: results are 0 or more.
    private static final int NO_SUCH_THING = -2;
    private static final int OUT_OF_RANGE = -3;
    private static final int NOT_NOW = -4;

    private static final int DRAW = 0;
    private static final int REV = 1;
    private static final int PRINT = 2;
    private static final int STAMP = 3;
    private static final int RUN = 4;
    private static final int WORDS = 5;
    // The shortest orders, draw and run1, have four characters, and a semicolon stands between two.
    private static final int MAX_ORDERS = (MAX_TEXT + 1) / 5;

    private final OfficeText text = new OfficeText();
    private final Office office = new Office();
    private final Office trial = new Office();
    private final History history = new History();
    private final Slots slots = new Slots();

    public TrueSheets() {
    }

    // ---- text

    public int append(int c) throws IllegalArgumentException, IllegalStateException {
        if (c < 0 || c > MAX_CODE) {
            throw new IllegalArgumentException("a character code is 0 to 255");
        }
        if (text.isFull()) {
            throw new IllegalStateException("the text has 120 characters");
        }
        return text.add((char) c);
    }

    public int clearText() {
        return text.empty();
    }

    public int errorPosition() {
        return text.readOrders();
    }

    public int load() throws IllegalStateException {
        if (text.readOrders() != NONE) {
            throw new IllegalStateException("the text is not an office");
        }
        office.clear();
        history.clear();
        slots.clear();
        int leftOut = 0;
        for (int i = 0; i < text.orderCount(); i++) {
            if (doOrder(i) < 0) {
                leftOut++;
            }
        }
        return leftOut;
    }

    // ---- what there is

    public int about(int what) throws IllegalArgumentException {
        if (what < 0 || what > 9) {
            throw new IllegalArgumentException("what is 0 to 9");
        }
        return office.totalNumber(what);
    }

    public int sheet(int s, int what) throws IndexOutOfBoundsException, IllegalArgumentException {
        needSheet(s);
        if (what < 0 || what > 7) {
            throw new IllegalArgumentException("what is 0 to 7");
        }
        return office.sheetNumber(s, what);
    }

    public int field(int s, int f) throws IndexOutOfBoundsException {
        needSheet(s);
        if (!isField(f)) {
            throw new IndexOutOfBoundsException("no such field");
        }
        return office.sheets.drawnOf(s, f);
    }

    public int drawnIn(int s, int revision) throws IndexOutOfBoundsException, IllegalArgumentException {
        needSheet(s);
        if (revision < 0 || revision > office.sheets.revisionOf(s)) {
            throw new IllegalArgumentException("the sheet has had no such revision");
        }
        return office.sheets.fieldsDrawn(s, revision, revision);
    }

    public int printed(int p, int what) throws IndexOutOfBoundsException, IllegalArgumentException {
        if (!office.prints.has(p)) {
            throw new IndexOutOfBoundsException("no such print");
        }
        if (what < 0 || what > 8) {
            throw new IllegalArgumentException("what is 0 to 8");
        }
        return office.printNumber(p, what);
    }

    public int work(int w, int what) throws IndexOutOfBoundsException, IllegalArgumentException {
        if (!office.works.has(w)) {
            throw new IndexOutOfBoundsException("no such work");
        }
        if (what < 0 || what > 4) {
            throw new IllegalArgumentException("what is 0 to 4");
        }
        return office.workNumber(w, what);
    }

    public int setting(int what) throws IllegalArgumentException {
        if (!isSetting(what)) {
            throw new IllegalArgumentException("no such setting");
        }
        return office.settingOf(what);
    }

    // ---- actions

    public int draw(int parent) throws IndexOutOfBoundsException, IllegalStateException {
        history.hold(office);
        return keptAnswer(office.addSheet(parent));
    }

    public int revise(int s, int fields)
            throws IndexOutOfBoundsException, IllegalArgumentException, IllegalStateException {
        history.hold(office);
        return keptAnswer(office.reviseSheet(s, fields));
    }

    public int check(int s) throws IndexOutOfBoundsException, IllegalStateException {
        history.hold(office);
        return keptAnswer(office.checkSheet(s));
    }

    public int print(int s, int site) throws IndexOutOfBoundsException, IllegalStateException {
        history.hold(office);
        return keptAnswer(office.addPrint(s, site));
    }

    public int stamp(int p, int hand) throws IndexOutOfBoundsException, IllegalStateException {
        history.hold(office);
        return keptAnswer(office.stampPrint(p, hand));
    }

    public int back(int p) throws IndexOutOfBoundsException, IllegalStateException {
        history.hold(office);
        return keptAnswer(office.takeBack(p));
    }

    public int build(int p, int f) throws IndexOutOfBoundsException, IllegalStateException {
        history.hold(office);
        return keptAnswer(office.buildField(p, f));
    }

    public int mend(int w) throws IndexOutOfBoundsException, IllegalStateException {
        history.hold(office);
        return keptAnswer(office.mendWork(w));
    }

    public int run(int n) throws IllegalArgumentException {
        history.hold(office);
        return keptAnswer(office.passDays(n));
    }

    public int set(int what, int v) throws IllegalArgumentException {
        history.hold(office);
        return keptAnswer(office.changeSetting(what, v));
    }

    public int undo() throws IllegalStateException {
        if (history.isEmpty()) {
            throw new IllegalStateException("no state is remembered");
        }
        return history.takeBackInto(office);
    }

    // ---- what would be

    public int truePrint(int site, int s) throws IndexOutOfBoundsException {
        if (!isSite(site)) {
            throw new IndexOutOfBoundsException("no such site");
        }
        needSheet(s);
        return office.firstTruePrint(site, s);
    }

    public int ifRevised(int s, int fields, int what)
            throws IndexOutOfBoundsException, IllegalArgumentException, IllegalStateException {
        needSheet(s);
        if (!isCloud(fields) || what < 0 || what > 3) {
            throw new IllegalArgumentException("fields are 1 to 4095, what is 0 to 3");
        }
        if (office.sheets.revisionOf(s) >= MAX_REVISION) {
            throw new IllegalStateException("the revision of the sheet is 99");
        }
        switch (what) {
            case 0:
                return office.prints.recallCountOf(s);
            case 1:
                return office.worksMadeWrong(s, fields);
            case 2:
                return office.sheets.aboveNotToCheck(s);
            default:
                return office.sitesWithTruePrint(s);
        }
    }

    public int coming(int n) throws IllegalArgumentException {
        if (!isDays(n)) {
            throw new IllegalArgumentException("the days are 1 to 30");
        }
        return office.costOfNext(n);
    }

    public int fetch(int k) throws IllegalArgumentException {
        if (k < 0) {
            throw new IllegalArgumentException("k is 0 or more");
        }
        return office.prints.toFetch(k);
    }

    public int worst() {
        return office.worstSite();
    }

    public int common(int s, int t) throws IndexOutOfBoundsException {
        needSheet(s);
        needSheet(t);
        return office.sheets.lowestOverBoth(s, t);
    }

    // ---- scripts, simulations

    public int runScript(int n, long script) throws IllegalArgumentException {
        if (n < 1 || n > MAX_COMMANDS) {
            throw new IllegalArgumentException("a script has 1 to 3 commands");
        }
        if (script < 0 || groupsDropped(script, n) != 0) {
            throw new IllegalArgumentException("a script has at most six digits a command");
        }
        trial.copyFrom(office);
        for (int i = 0; i < n; i++) {
            int command = (int) (groupsDropped(script, n - 1 - i) % GROUP);
            if (!succeeds(trial, command)) {
                return i;
            }
        }
        return NONE;
    }

    public int simulate(long seed, int m) throws IllegalArgumentException {
        if (m < 1 || m > MAX_TURNS) {
            throw new IllegalArgumentException("the turns are 1 to 80");
        }
        trial.copyFrom(office);
        long x = seed;
        for (int i = 0; i < m; i++) {
            x = x * 6364136223846793005L + 1442695040888963407L;
            takeTurn(trial, (int) (x >>> 33));
        }
        return 1000 * trial.wrongWorks(NONE, NONE) + Math.min(999, trial.cost - office.cost);
    }

    // ---- save slots

    public int save(int slot) throws IndexOutOfBoundsException {
        if (!isSlot(slot)) {
            throw new IndexOutOfBoundsException("no such save slot");
        }
        slots.keep(slot, office);
        return office.today;
    }

    public int restore(int slot) throws IndexOutOfBoundsException, IllegalStateException {
        if (!isSlot(slot)) {
            throw new IndexOutOfBoundsException("no such save slot");
        }
        if (!slots.holds(slot)) {
            throw new IllegalStateException("nothing has been saved in this slot");
        }
        slots.copyInto(slot, office);
        history.clear();
        return office.today;
    }

    // ---- helpers of the face

    private void needSheet(int s) {
        if (!office.sheets.has(s)) {
            throw new IndexOutOfBoundsException("no such sheet");
        }
    }

    /** Throws if the action was refused; otherwise the state before it is remembered. */
    private int keptAnswer(int answer) {
        if (answer == NO_SUCH_THING) {
            throw new IndexOutOfBoundsException("no such sheet, field, print, work, site or hand");
        }
        if (answer == OUT_OF_RANGE) {
            throw new IllegalArgumentException("an argument is out of its range");
        }
        if (answer == NOT_NOW) {
            throw new IllegalStateException("this can't be done now");
        }
        history.rememberHeld();
        return answer;
    }

    private int doOrder(int order) {
        int first = text.firstOf(order);
        int second = text.secondOf(order);
        switch (text.wordOf(order)) {
            case DRAW:
                return office.addSheet(first);
            case REV:
                return office.reviseSheet(first, second);
            case PRINT:
                return office.addPrint(first, second);
            case STAMP:
                return office.stampPrint(first, second);
            default:
                return office.passDays(first);
        }
    }

    private static long groupsDropped(long script, int groups) {
        long rest = script;
        for (int i = 0; i < groups; i++) {
            rest = rest / GROUP;
        }
        return rest;
    }

    private static boolean succeeds(Office copy, int command) {
        int last5 = command % 100000;
        int last4 = command % 10000;
        int last3 = command % 1000;
        int last2 = command % 100;
        int last1 = command % 10;
        int sheet = last5 / 10000;
        int print = last5 / 1000;
        int field = last3 / 10;
        switch (command / 100000) {
            case 1:
                return last4 < 1000 && last1 == 0 && isField(field)
                    && copy.reviseSheet(sheet, 1 << field) >= 0;
            case 2:
                return last3 == 0 && copy.addPrint(sheet, last4 / 1000) >= 0;
            case 3:
                return last2 == 0 && copy.stampPrint(print, last3 / 100) >= 0;
            case 4:
                return last1 == 0 && copy.buildField(print, field) >= 0;
            case 5:
                return last5 < 100 && copy.passDays(last2) >= 0;
            case 6:
                return last3 == 0 && copy.takeBack(print) >= 0;
            case 7:
                return last4 == 0 && copy.checkSheet(sheet) >= 0;
            case 8:
                return last5 < 100 && copy.wrongWorks(NONE, NONE) <= last2;
            case 9:
                return last3 < 2 && copy.prints.has(print) && copy.mayBuildBy(print) == (last1 == 1);
            default:
                return false;
        }
    }

    /** The answers are not looked at: what is refused has changed nothing. */
    private static void takeTurn(Office copy, int r) {
        int part = r / 16;
        switch (r % 16) {
            case 0:
                copy.addSheet(part % 10);
                break;
            case 1:
            case 2:
                copy.reviseSheet(part % 10, 1 + r / 256 % 4095);
                break;
            case 3:
                copy.checkSheet(part % 10);
                break;
            case 4:
            case 5:
            case 6:
                copy.addPrint(part % 10, r / 256 % 4);
                break;
            case 7:
            case 8:
                copy.stampPrint(part % 24, r / 512 % 3);
                break;
            case 9:
                copy.takeBack(part % 24);
                break;
            case 10:
            case 11:
            case 12:
                copy.buildField(part % 24, r / 512 % 12);
                break;
            case 13:
                copy.mendWork(part % 30);
                break;
            default:
                copy.passDays(1 + part % 5);
                break;
        }
    }

    private static boolean isField(int f) {
        return f >= 0 && f < FIELDS;
    }

    private static boolean isCloud(int fields) {
        return fields >= 1 && fields <= ALL_FIELDS;
    }

    private static boolean isSite(int site) {
        return site >= 0 && site < SITES;
    }

    private static boolean isDays(int n) {
        return n >= 1 && n <= MAX_DAYS;
    }

    private static boolean isSetting(int what) {
        return what >= 0 && what < SETTINGS;
    }

    private static boolean isSlot(int slot) {
        return slot >= 0 && slot < SLOTS;
    }

    private static boolean isIn(int set, int i) {
        return (set >> i & 1) != 0;
    }

    /** Sheets and their fields. A parent always has a lower number than the sheets under it. */
    private static final class Sheets {
        private int count;
        private int toCheck;
        private final int[] parent = new int[MAX_SHEETS];
        private final int[] revision = new int[MAX_SHEETS];
        private final int[] drawn = new int[MAX_SHEETS * FIELDS];

        void clear() {
            count = 0;
            toCheck = 0;
        }

        void copyFrom(Sheets other) {
            count = other.count;
            toCheck = other.toCheck;
            System.arraycopy(other.parent, 0, parent, 0, MAX_SHEETS);
            System.arraycopy(other.revision, 0, revision, 0, MAX_SHEETS);
            System.arraycopy(other.drawn, 0, drawn, 0, MAX_SHEETS * FIELDS);
        }

        boolean has(int s) {
            return s >= 0 && s < count && s < MAX_SHEETS;
        }

        int size() {
            return count;
        }

        int add(int under) {
            int s = count;
            if (s < 0 || s >= MAX_SHEETS) {
                return NOT_NOW;
            }
            parent[s] = under;
            revision[s] = 0;
            for (int f = 0; f < FIELDS; f++) {
                drawn[s * FIELDS + f] = 0;
            }
            count++;
            return s;
        }

        int parentOf(int s) {
            return has(s) ? parent[s] : NONE;
        }

        int revisionOf(int s) {
            return has(s) ? revision[s] : NONE;
        }

        int drawnOf(int s, int f) {
            return has(s) && isField(f) ? drawn[s * FIELDS + f] : NONE;
        }

        boolean isToCheck(int s) {
            return isIn(toCheck, s);
        }

        int toCheckCount() {
            return Integer.bitCount(toCheck);
        }

        void markChecked(int s) {
            toCheck &= ~(1 << s);
        }

        void drawAnew(int s, int fields) {
            if (!has(s)) {
                return;
            }
            revision[s]++;
            for (int f = 0; f < FIELDS; f++) {
                if (isIn(fields, f)) {
                    drawn[s * FIELDS + f] = revision[s];
                }
            }
            toCheck |= above(s);
            markChecked(s);
        }

        int fieldsDrawn(int s, int from, int to) {
            int fields = 0;
            for (int f = 0; f < FIELDS; f++) {
                int last = drawnOf(s, f);
                if (last >= from && last <= to) {
                    fields |= 1 << f;
                }
            }
            return fields;
        }

        int above(int s) {
            int set = 0;
            int next = parentOf(s);
            for (int i = 0; i < MAX_SHEETS && has(next); i++) {
                set |= 1 << next;
                next = parentOf(next);
            }
            return set;
        }

        int aboveNotToCheck(int s) {
            return Integer.bitCount(above(s) & ~toCheck);
        }

        int countUnder(int s) {
            int under = 0;
            for (int t = 0; t < count; t++) {
                if (isIn(above(t), s)) {
                    under++;
                }
            }
            return under;
        }

        int heightOf(int s) {
            int levelOfSheet = Integer.bitCount(above(s));
            int height = 1;
            for (int t = 0; t < count; t++) {
                int set = above(t);
                if (isIn(set, s)) {
                    height = Math.max(height, Integer.bitCount(set) - levelOfSheet + 1);
                }
            }
            return height;
        }

        int lowestOverBoth(int s, int t) {
            int both = (above(s) | 1 << s) & (above(t) | 1 << t);
            // all of them stand in one line, and the lowest in the tree was drawn last
            for (int a = MAX_SHEETS - 1; a >= 0; a--) {
                if (isIn(both, a)) {
                    return a;
                }
            }
            return NONE;
        }
    }

    /** Prints; the day on which one is due is NONE as long as it has not been recalled. */
    private static final class Prints {
        private int count;
        private int out;
        private final int[] sheet = new int[MAX_PRINTS];
        private final int[] revision = new int[MAX_PRINTS];
        private final int[] site = new int[MAX_PRINTS];
        private final int[] day = new int[MAX_PRINTS];
        private final int[] stamps = new int[MAX_PRINTS];
        private final int[] due = new int[MAX_PRINTS];

        void clear() {
            count = 0;
            out = 0;
        }

        void copyFrom(Prints other) {
            count = other.count;
            out = other.out;
            System.arraycopy(other.sheet, 0, sheet, 0, MAX_PRINTS);
            System.arraycopy(other.revision, 0, revision, 0, MAX_PRINTS);
            System.arraycopy(other.site, 0, site, 0, MAX_PRINTS);
            System.arraycopy(other.day, 0, day, 0, MAX_PRINTS);
            System.arraycopy(other.stamps, 0, stamps, 0, MAX_PRINTS);
            System.arraycopy(other.due, 0, due, 0, MAX_PRINTS);
        }

        boolean has(int p) {
            return p >= 0 && p < count && p < MAX_PRINTS;
        }

        int size() {
            return count;
        }

        int add(int ofSheet, int atRevision, int toSite, int today) {
            int p = count;
            if (p < 0 || p >= MAX_PRINTS) {
                return NOT_NOW;
            }
            sheet[p] = ofSheet;
            revision[p] = atRevision;
            site[p] = toSite;
            day[p] = today;
            stamps[p] = 0;
            due[p] = NONE;
            out |= 1 << p;
            count++;
            return p;
        }

        int sheetOf(int p) {
            return has(p) ? sheet[p] : NONE;
        }

        int revisionOf(int p) {
            return has(p) ? revision[p] : NONE;
        }

        int siteOf(int p) {
            return has(p) ? site[p] : NONE;
        }

        int dayOf(int p) {
            return has(p) ? day[p] : NONE;
        }

        int stampsOf(int p) {
            return has(p) ? stamps[p] : 0;
        }

        int dueOf(int p) {
            return has(p) ? due[p] : NONE;
        }

        boolean isOut(int p) {
            return isIn(out, p);
        }

        boolean isOutNotRecalled(int p) {
            return isOut(p) && dueOf(p) == NONE;
        }

        boolean isOutAndRecalled(int p) {
            return isOut(p) && dueOf(p) != NONE;
        }

        int overdueDays(int p, int today) {
            return isOutAndRecalled(p) ? Math.max(0, today - dueOf(p)) : 0;
        }

        int outCount() {
            return Integer.bitCount(out);
        }

        int outCountOf(int s) {
            int found = 0;
            for (int p = 0; p < count; p++) {
                if (isOut(p) && sheetOf(p) == s) {
                    found++;
                }
            }
            return found;
        }

        int recalledCount() {
            int found = 0;
            for (int p = 0; p < count; p++) {
                if (isOutAndRecalled(p)) {
                    found++;
                }
            }
            return found;
        }

        /** The overdue prints at a site, or at all sites for NONE. */
        int overdueCount(int atSite, int today) {
            int found = 0;
            for (int p = 0; p < count; p++) {
                if ((atSite == NONE || siteOf(p) == atSite) && overdueDays(p, today) > 0) {
                    found++;
                }
            }
            return found;
        }

        /** The prints that a revision of the sheet recalls. */
        int recallCountOf(int s) {
            int found = 0;
            for (int p = 0; p < count; p++) {
                if (isOutNotRecalled(p) && sheetOf(p) == s) {
                    found++;
                }
            }
            return found;
        }

        void recallAllOf(int s, int dueDay) {
            for (int p = 0; p < count && p < MAX_PRINTS; p++) {
                if (isOutNotRecalled(p) && sheetOf(p) == s) {
                    due[p] = dueDay;
                }
            }
        }

        int addStamp(int p, int hand) {
            if (has(p)) {
                stamps[p] |= 1 << hand;
            }
            return Integer.bitCount(stampsOf(p));
        }

        void markBack(int p) {
            out &= ~(1 << p);
        }

        int toFetch(int k) {
            for (int p = 0; p < count; p++) {
                if (isOutAndRecalled(p) && fetchedBefore(p) == k) {
                    return p;
                }
            }
            return NONE;
        }

        private int fetchedBefore(int p) {
            int before = 0;
            for (int q = 0; q < count; q++) {
                boolean isFirst = dueOf(q) < dueOf(p) || dueOf(q) == dueOf(p) && q < p;
                if (isOutAndRecalled(q) && isFirst) {
                    before++;
                }
            }
            return before;
        }
    }

    /** What has been built, and by which revision. */
    private static final class Works {
        private int count;
        private final int[] site = new int[MAX_WORKS];
        private final int[] sheet = new int[MAX_WORKS];
        private final int[] field = new int[MAX_WORKS];
        private final int[] revision = new int[MAX_WORKS];

        void clear() {
            count = 0;
        }

        void copyFrom(Works other) {
            count = other.count;
            System.arraycopy(other.site, 0, site, 0, MAX_WORKS);
            System.arraycopy(other.sheet, 0, sheet, 0, MAX_WORKS);
            System.arraycopy(other.field, 0, field, 0, MAX_WORKS);
            System.arraycopy(other.revision, 0, revision, 0, MAX_WORKS);
        }

        boolean has(int w) {
            return w >= 0 && w < count && w < MAX_WORKS;
        }

        int size() {
            return count;
        }

        int add(int atSite, int ofSheet, int ofField, int byRevision) {
            int w = count;
            if (w < 0 || w >= MAX_WORKS) {
                return NOT_NOW;
            }
            site[w] = atSite;
            sheet[w] = ofSheet;
            field[w] = ofField;
            revision[w] = byRevision;
            count++;
            return w;
        }

        int siteOf(int w) {
            return has(w) ? site[w] : NONE;
        }

        int sheetOf(int w) {
            return has(w) ? sheet[w] : NONE;
        }

        int fieldOf(int w) {
            return has(w) ? field[w] : NONE;
        }

        int revisionOf(int w) {
            return has(w) ? revision[w] : NONE;
        }

        void putRevision(int w, int present) {
            if (has(w)) {
                revision[w] = present;
            }
        }
    }

    /** A whole state: all that an undo takes back and that a save slot keeps. */
    private static final class Office {
        private final Sheets sheets = new Sheets();
        private final Prints prints = new Prints();
        private final Works works = new Works();
        private final int[] settings = new int[SETTINGS];
        private int today;
        private int cost;

        Office() {
            clear();
        }

        void clear() {
            sheets.clear();
            prints.clear();
            works.clear();
            settings[RECALL_DAYS] = 3;
            settings[HANDS_TO_STAMP] = 1;
            settings[COST_OF_A_DAY] = 5;
            today = 0;
            cost = 0;
        }

        void copyFrom(Office other) {
            sheets.copyFrom(other.sheets);
            prints.copyFrom(other.prints);
            works.copyFrom(other.works);
            System.arraycopy(other.settings, 0, settings, 0, SETTINGS);
            today = other.today;
            cost = other.cost;
        }

        int settingOf(int what) {
            return isSetting(what) ? settings[what] : NONE;
        }

        private static int mostOfSetting(int what) {
            switch (what) {
                case RECALL_DAYS:
                    return 20;
                case HANDS_TO_STAMP:
                    return 3;
                default:
                    return 99;
            }
        }

        boolean mayBuildBy(int p) {
            return prints.isOutNotRecalled(p)
                && Integer.bitCount(prints.stampsOf(p)) >= settings[HANDS_TO_STAMP]
                && !sheets.isToCheck(prints.sheetOf(p));
        }

        boolean isWrong(int w) {
            return sheets.drawnOf(works.sheetOf(w), works.fieldOf(w)) > works.revisionOf(w);
        }

        /** The wrong works at a site and of a sheet; NONE stands for all of them. */
        int wrongWorks(int site, int sheet) {
            int wrong = 0;
            for (int w = 0; w < works.size(); w++) {
                boolean isMeant = (site == NONE || works.siteOf(w) == site)
                    && (sheet == NONE || works.sheetOf(w) == sheet);
                if (isMeant && isWrong(w)) {
                    wrong++;
                }
            }
            return wrong;
        }

        // -- numbers

        int totalNumber(int what) {
            switch (what) {
                case 0:
                    return sheets.size();
                case 1:
                    return prints.size();
                case 2:
                    return prints.outCount();
                case 3:
                    return prints.recalledCount();
                case 4:
                    return prints.overdueCount(NONE, today);
                case 5:
                    return works.size();
                case 6:
                    return wrongWorks(NONE, NONE);
                case 7:
                    return sheets.toCheckCount();
                case 8:
                    return today;
                default:
                    return cost;
            }
        }

        int sheetNumber(int s, int what) {
            switch (what) {
                case 0:
                    return sheets.parentOf(s);
                case 1:
                    return sheets.revisionOf(s);
                case 2:
                    return sheets.isToCheck(s) ? 1 : 0;
                case 3:
                    return sheets.countUnder(s);
                case 4:
                    return Integer.bitCount(sheets.above(s));
                case 5:
                    return prints.outCountOf(s);
                case 6:
                    return sheets.heightOf(s);
                default:
                    return wrongWorks(NONE, s);
            }
        }

        int printNumber(int p, int what) {
            switch (what) {
                case 0:
                    return prints.sheetOf(p);
                case 1:
                    return prints.revisionOf(p);
                case 2:
                    return prints.siteOf(p);
                case 3:
                    return prints.dayOf(p);
                case 4:
                    return prints.stampsOf(p);
                case 5:
                    return prints.isOut(p) ? 1 : 0;
                case 6:
                    return prints.dueOf(p);
                case 7:
                    return mayBuildBy(p) ? 1 : 0;
                default:
                    return sheets.fieldsDrawn(prints.sheetOf(p), 0, prints.revisionOf(p));
            }
        }

        int workNumber(int w, int what) {
            switch (what) {
                case 0:
                    return works.siteOf(w);
                case 1:
                    return works.sheetOf(w);
                case 2:
                    return works.fieldOf(w);
                case 3:
                    return works.revisionOf(w);
                default:
                    return isWrong(w) ? 1 : 0;
            }
        }

        // -- actions: each answers its result, or why it is refused, and then changes nothing

        int addSheet(int parent) {
            if (parent != NONE && !sheets.has(parent)) {
                return NO_SUCH_THING;
            }
            return sheets.add(parent);
        }

        int reviseSheet(int s, int fields) {
            if (!sheets.has(s)) {
                return NO_SUCH_THING;
            }
            if (!isCloud(fields)) {
                return OUT_OF_RANGE;
            }
            if (sheets.revisionOf(s) >= MAX_REVISION) {
                return NOT_NOW;
            }
            int recalled = prints.recallCountOf(s);
            prints.recallAllOf(s, today + settings[RECALL_DAYS]);
            sheets.drawAnew(s, fields);
            return recalled;
        }

        int checkSheet(int s) {
            if (!sheets.has(s)) {
                return NO_SUCH_THING;
            }
            if (!sheets.isToCheck(s)) {
                return NOT_NOW;
            }
            sheets.markChecked(s);
            return sheets.toCheckCount();
        }

        int addPrint(int s, int site) {
            if (!sheets.has(s) || !isSite(site)) {
                return NO_SUCH_THING;
            }
            return prints.add(s, sheets.revisionOf(s), site, today);
        }

        int stampPrint(int p, int hand) {
            if (!prints.has(p) || hand < 0 || hand >= HANDS) {
                return NO_SUCH_THING;
            }
            if (!prints.isOutNotRecalled(p)) {
                return NOT_NOW;
            }
            return prints.addStamp(p, hand);
        }

        int takeBack(int p) {
            if (!prints.has(p)) {
                return NO_SUCH_THING;
            }
            if (!prints.isOut(p)) {
                return NOT_NOW;
            }
            int late = prints.overdueDays(p, today);
            prints.markBack(p);
            return late;
        }

        int buildField(int p, int f) {
            if (!prints.has(p) || !isField(f)) {
                return NO_SUCH_THING;
            }
            if (!mayBuildBy(p)) {
                return NOT_NOW;
            }
            return works.add(prints.siteOf(p), prints.sheetOf(p), f, prints.revisionOf(p));
        }

        int mendWork(int w) {
            if (!works.has(w)) {
                return NO_SUCH_THING;
            }
            if (!isWrong(w)) {
                return NOT_NOW;
            }
            works.putRevision(w, sheets.revisionOf(works.sheetOf(w)));
            return wrongWorks(NONE, NONE);
        }

        int passDays(int n) {
            if (!isDays(n)) {
                return OUT_OF_RANGE;
            }
            int price = costOfNext(n);
            today += n;
            cost += price;
            return price;
        }

        int changeSetting(int what, int v) {
            if (!isSetting(what) || v < 0 || v > mostOfSetting(what)) {
                return OUT_OF_RANGE;
            }
            int previous = settings[what];
            settings[what] = v;
            return previous;
        }

        // -- what would be

        int costOfNext(int n) {
            int chargedDays = 0;
            for (int p = 0; p < prints.size(); p++) {
                // it is overdue on each day behind the one on which it is due, but no earlier day counts
                chargedDays += Math.min(n, prints.overdueDays(p, today + n));
            }
            return chargedDays * settings[COST_OF_A_DAY];
        }

        int firstTruePrint(int site, int s) {
            for (int p = 0; p < prints.size(); p++) {
                if (prints.siteOf(p) == site && prints.sheetOf(p) == s && mayBuildBy(p)) {
                    return p;
                }
            }
            return NONE;
        }

        int worksMadeWrong(int s, int fields) {
            int found = 0;
            for (int w = 0; w < works.size(); w++) {
                if (works.sheetOf(w) == s && isIn(fields, works.fieldOf(w)) && !isWrong(w)) {
                    found++;
                }
            }
            return found;
        }

        /** A revision recalls every print of the sheet, so each of these sites would lose all. */
        int sitesWithTruePrint(int s) {
            int found = 0;
            for (int site = 0; site < SITES; site++) {
                if (firstTruePrint(site, s) != NONE) {
                    found++;
                }
            }
            return found;
        }

        int worstSite() {
            int worstSoFar = 0;
            int mostOverdue = prints.overdueCount(0, today);
            int mostWrong = wrongWorks(0, NONE);
            for (int site = 1; site < SITES; site++) {
                int overdue = prints.overdueCount(site, today);
                int wrong = wrongWorks(site, NONE);
                if (overdue > mostOverdue || overdue == mostOverdue && wrong > mostWrong) {
                    worstSoFar = site;
                    mostOverdue = overdue;
                    mostWrong = wrong;
                }
            }
            return worstSoFar;
        }
    }

    /** The remembered states, in a ring with one row more, which holds the state before an action. */
    private static final class History {
        private static final int ROWS = MAX_REMEMBERED + 1;
        private final Office[] rows = new Office[ROWS];
        private int count;
        private int next;

        History() {
            for (int i = 0; i < ROWS; i++) {
                rows[i] = new Office();
            }
        }

        void clear() {
            count = 0;
        }

        boolean isEmpty() {
            return count == 0;
        }

        private Office rowAt(int i) {
            return i >= 0 && i < ROWS ? rows[i] : null;
        }

        /** Copies the state into the spare row; it counts only once rememberHeld() is called. */
        void hold(Office office) {
            Office row = rowAt(next);
            if (row != null) {
                row.copyFrom(office);
            }
        }

        void rememberHeld() {
            next = (next + 1) % ROWS;
            count = Math.min(count + 1, MAX_REMEMBERED);
        }

        /** Makes the office what it was before the last action, and answers how many remain. */
        int takeBackInto(Office office) {
            next = (next + ROWS - 1) % ROWS;
            count--;
            Office row = rowAt(next);
            if (row != null) {
                office.copyFrom(row);
            }
            return count;
        }
    }

    /** The save slots. */
    private static final class Slots {
        private final Office[] rows = new Office[SLOTS];
        private int filled;

        Slots() {
            for (int i = 0; i < SLOTS; i++) {
                rows[i] = new Office();
            }
        }

        void clear() {
            filled = 0;
        }

        boolean holds(int slot) {
            return isIn(filled, slot);
        }

        private Office rowAt(int slot) {
            return isSlot(slot) ? rows[slot] : null;
        }

        void keep(int slot, Office office) {
            Office row = rowAt(slot);
            if (row != null) {
                row.copyFrom(office);
                filled |= 1 << slot;
            }
        }

        void copyInto(int slot, Office office) {
            Office row = rowAt(slot);
            if (row != null) {
                office.copyFrom(row);
            }
        }
    }

    /** The text buffer, and the orders that the last reading of it found. */
    private static final class OfficeText {
        private final char[] signs = new char[MAX_TEXT];
        private int length;
        private int place;
        private final int[] words = new int[MAX_ORDERS];
        private final int[] firsts = new int[MAX_ORDERS];
        private final int[] seconds = new int[MAX_ORDERS];
        private int orders;

        boolean isFull() {
            return length >= MAX_TEXT;
        }

        int add(char sign) {
            if (length >= 0 && length < MAX_TEXT) {
                signs[length] = sign;
                length++;
            }
            return length;
        }

        int empty() {
            int previous = length;
            length = 0;
            return previous;
        }

        int orderCount() {
            return orders;
        }

        private static boolean isOrder(int order) {
            return order >= 0 && order < MAX_ORDERS;
        }

        int wordOf(int order) {
            return isOrder(order) ? words[order] : NONE;
        }

        int firstOf(int order) {
            return isOrder(order) ? firsts[order] : NONE;
        }

        int secondOf(int order) {
            return isOrder(order) ? seconds[order] : NONE;
        }

        /**
         * Reads the whole text. Every part that can't be read leaves the place at the first
         * character that is not allowed, or at the end, and so the place is the error position.
         */
        int readOrders() {
            place = 0;
            orders = 0;
            for (int i = 0; i < MAX_ORDERS; i++) {
                if (!readOrder()) {
                    return place;
                }
                if (place >= length) {
                    return NONE;
                }
                if (!readSign(';')) {
                    return place;
                }
            }
            return place;
        }

        private boolean readOrder() {
            int word = readWord();
            switch (word) {
                case DRAW:
                    // without a number this is NONE, the parent of a sheet under none
                    return keepOrder(word, readNumber(0, MAX_SHEETS - 1), 0);
                case REV:
                    return readParts(word, MAX_SHEETS - 1, ':', FIELDS - 1);
                case PRINT:
                    return readParts(word, MAX_SHEETS - 1, '@', SITES - 1);
                case STAMP:
                    return readParts(word, MAX_PRINTS - 1, '/', HANDS - 1);
                case RUN:
                    return readDays(word);
                default:
                    return false;
            }
        }

        private boolean readParts(int word, int mostOfFirst, char between, int mostOfSecond) {
            int first = readNumber(0, mostOfFirst);
            if (first == NONE || !readSign(between)) {
                return false;
            }
            int second = word == REV ? readFields(mostOfSecond) : readNumber(0, mostOfSecond);
            return second != NONE && keepOrder(word, first, second);
        }

        private boolean readDays(int word) {
            int days = readNumber(1, MAX_DAYS);
            return days != NONE && keepOrder(word, days, 0);
        }

        private boolean keepOrder(int word, int first, int second) {
            if (!isOrder(orders)) {
                return false;
            }
            words[orders] = word;
            firsts[orders] = first;
            seconds[orders] = second;
            orders++;
            return true;
        }

        private static String spelling(int word) {
            switch (word) {
                case DRAW:
                    return "draw";
                case REV:
                    return "rev";
                case PRINT:
                    return "print";
                case STAMP:
                    return "stamp";
                default:
                    return "run";
            }
        }

        private int readWord() {
            int longest = 0;
            for (int word = 0; word < WORDS; word++) {
                String letters = spelling(word);
                int same = lettersOf(letters);
                if (same == letters.length()) {
                    place += same;
                    return word;
                }
                longest = Math.max(longest, same);
            }
            place += longest;
            return NONE;
        }

        /** How many letters of the word stand in the text, from the place on. */
        private int lettersOf(String word) {
            int same = 0;
            while (same < word.length() && signAt(place + same) == word.charAt(same)) {
                same++;
            }
            return same;
        }

        /** The character there, NONE behind the end. */
        private int signAt(int i) {
            return i >= 0 && i < length && i < MAX_TEXT ? signs[i] : NONE;
        }

        private boolean readSign(char sign) {
            if (signAt(place) != sign) {
                return false;
            }
            place++;
            return true;
        }

        /** Takes digits as long as the number stays in its range; NONE if not even one fits. */
        private int readNumber(int least, int most) {
            int number = NONE;
            for (int i = 0; i < MAX_TEXT; i++) {
                int digit = signAt(place) - '0';
                // a number that begins with zero is zero, and has no further digit
                if (digit < 0 || digit > 9 || number == 0) {
                    return number;
                }
                int longer = number == NONE ? digit : number * 10 + digit;
                if (longer < least || longer > most) {
                    return number;
                }
                number = longer;
                place++;
            }
            return number;
        }

        /** A field that is not greater than the one before it makes the sign behind it wrong. */
        private int readFields(int most) {
            int fields = 0;
            int last = NONE;
            for (int i = 0; i <= FIELDS; i++) {
                int field = readNumber(0, most);
                if (field <= last) {
                    return NONE;
                }
                fields |= 1 << field;
                last = field;
                if (!readSign(',')) {
                    return fields;
                }
            }
            return NONE;
        }
    }
}
