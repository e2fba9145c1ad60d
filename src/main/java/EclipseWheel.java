/** Wheels of whole parts, the eclipses that they tell, their cycles, dates, texts, trays and an image. */
public final class EclipseWheel {
    public static final int NONE = -1, BAD = -2, STATE = -3, FULL = -4, NOT = -5;
    public static final long NO = Long.MIN_VALUE;

    private static final int MISSING = -11, OUTSIDE = -12, KINDLESS = -13, BELOW_NOTHING = -14;
    private static final int PLAIN = 0, BACK = 1, LAME = 2, HASTY = 3, GEARED = 4;
    private static final int DARK = 0, PARTIAL = 1, WHOLE = 2, RINGED = 3;
    private static final int LAST_MONTH = 100000;
    private static final int MOST_WHEELS = 6;
    private static final int MOST_PARTS = 100000, MOST_STEP = 99999;
    private static final int SPAN = 4000, ROLL_SPAN = 200;
    private static final int MOST_CYCLE = 2000, MOST_FAMILY_STEPS = 500;
    private static final int MOST_TERMS = 64;
    private static final int MOST_BELOW_LINE = 1000;
    private static final int LAST_DAY = 1000000;
    private static final int ON_PAPER = 12;
    private static final int MOST_GAPS = 60;
    private static final int FIRST_RULE_COUNTED = 5;
    private static final int MOST_ROUNDS_TOLD = 100000;
    private static final long GREATEST_LONG = 9223372036854775807L;

    private final Setup now = new Setup();
    private final Setup kept = new Setup();
    private boolean imageTaken = false;
    private final Tray[] trays = {new Tray(), new Tray(), new Tray(), new Tray()};
    private final Items[] lists = {new Items(), new Items(), new Items()};
    private final Tape tape = new Tape();
    private int textsDone = 0;
    private final int[] found = new int[MOST_GAPS + 1];
    private final int[] recordRow = new int[MOST_CYCLE];
    private final Sheet sheet = new Sheet();
    private final int[] rolledSizes = new int[ROLL_SPAN];
    private final int[] rolledSides = new int[ROLL_SPAN];

    public EclipseWheel() {
    }

    public int wheel(int kind, int parts, int step, int start) {
        return Wheel.canBe(kind, parts, step, start) ? now.addWheel(kind, parts, step, start) : BAD;
    }

    public int of(int wheel, int what) {
        Wheel it = now.numbered(wheel);
        return it == null ? NONE : it.told(what);
    }

    public int turn(int wheel, int step, int start) {
        Wheel it = now.numbered(wheel);
        if (it == null) {
            return NONE;
        }
        if (!Wheel.canBe(it.kind, it.parts, step, start)) {
            return BAD;
        }
        int was = now.placeAt(wheel, 0);
        it.step = step;
        it.start = start;
        return was;
    }

    public int drop() {
        return now.dropLast();
    }

    public int at(int wheel, int m) {
        if (!now.has(wheel)) {
            return NONE;
        }
        return isMonth(m) ? now.placeAt(wheel, m) : BAD;
    }

    public long rounds(int wheel, int m) {
        return now.has(wheel) && isMonth(m) ? now.roundsAt(wheel, m) : NO;
    }

    public int bind(int node, int apse) {
        if (!now.has(node) || (apse != NONE && !now.has(apse))) {
            return NONE;
        }
        now.node = node;
        now.apse = apse;
        return 1;
    }

    public int rule(int what, int v) {
        if (!Setup.isRule(what)) {
            return NONE;
        }
        if (!Setup.isWithinRule(what, v)) {
            return BAD;
        }
        int was = now.ruled(what);
        now.setRule(what, v);
        return was;
    }

    public int eclipse(int m, int what) {
        if (!isMonth(m) || what < 0 || what > 2) {
            return BAD;
        }
        if (now.wheelCount == 0) {
            return STATE;
        }
        if (what == 0) {
            return now.eclipseAt(m);
        }
        return what == 1 ? now.farAt(m) : now.sideAt(m);
    }

    public int eclipses(int a, int b, int kind) {
        if (!isStretch(a, b, SPAN)) {
            return BAD;
        }
        if (kind < 0 || kind > RINGED) {
            return NONE;
        }
        int many = 0;
        for (int m = a; m <= b; m++) {
            int it = now.eclipseAt(m);
            if (it != DARK && (kind == 0 || it == kind)) {
                many++;
            }
        }
        return many;
    }

    public int next(int m, int way) {
        if (!isMonth(m) || way < 0 || way > 1) {
            return BAD;
        }
        int onward = way == 0 ? 1 : -1;
        for (int i = 1; i <= SPAN; i++) {
            int there = m + onward * i;
            if (isMonth(there) && now.eclipseAt(there) != DARK) {
                return there + LAST_MONTH;
            }
        }
        return NOT;
    }

    public int family(int m, int k, int what) {
        if (!isMonth(m) || !isCycle(k) || what < 0 || what > 2) {
            return BAD;
        }
        if (now.eclipseAt(m) == DARK) {
            return NOT;
        }
        int earlier = now.relatives(m, -k);
        int later = now.relatives(m, k);
        if (what == 2) {
            return earlier + 1 + later;
        }
        return LAST_MONTH + (what == 0 ? m - earlier * k : m + later * k);
    }

    public int roll(int a, int b, int k, int what) {
        if (!isStretch(a, b, ROLL_SPAN) || !isCycle(k) || what < 0 || what > 4) {
            return BAD;
        }
        int born = 0;
        int ended = 0;
        int largest = 0;
        int mostAlive = 0;
        for (int i = 0; i <= b - a && i < ROLL_SPAN; i++) {
            int size = rollOnto(a, i, k);
            largest = Math.max(largest, size);
            if (size == 1) {
                born++;
            }
            // A family whose latest eclipse lies k months back either went on with this month or ends here.
            if (rolledSize(i - k) > 0 && size <= 1) {
                ended++;
            }
            mostAlive = Math.max(mostAlive, born - ended);
        }
        switch (what) {
            case 0: return born;
            case 1: return ended;
            case 2: return born - ended;
            case 3: return largest;
            default: return mostAlive;
        }
    }

    public int drift(int k, int what) {
        if (!isCycle(k) || what < 0 || what > 1) {
            return BAD;
        }
        return now.wheelCount == 0 ? STATE : now.driftOf(k, what);
    }

    public int records(int most, int what) {
        if (!isCycle(most) || what < 0 || what > 1) {
            return BAD;
        }
        if (now.wheelCount == 0) {
            return STATE;
        }
        return findRecords(most, what);
    }

    public int record(int i, int what) {
        if (what < 0 || what > 1) {
            return BAD;
        }
        if (now.wheelCount == 0) {
            return STATE;
        }
        int many = findRecords(MOST_CYCLE, what);
        return i >= 0 && i < many && i < recordRow.length ? recordRow[i] : NONE;
    }

    public int terms(int wheel) {
        Wheel it = now.numbered(wheel);
        if (it == null) {
            return NONE;
        }
        int many = 0;
        for (int i = 0; i < MOST_TERMS && it.termNumbered(i) != NONE; i++) {
            many++;
        }
        return many;
    }

    public int term(int wheel, int i) {
        Wheel it = now.numbered(wheel);
        return it == null ? NONE : it.termNumbered(i);
    }

    public long convergent(int wheel, int i, int part) {
        Wheel it = now.numbered(wheel);
        if (it == null || it.termNumbered(i) == NONE || part < 0 || part > 1) {
            return NO;
        }
        return it.convergentNumbered(i, part);
    }

    public int nearest(int wheel, int most) {
        Wheel it = now.numbered(wheel);
        if (it == null) {
            return NONE;
        }
        return most < 1 || most > MOST_BELOW_LINE ? BAD : it.nearestBelowLine(most);
    }

    public long date(int m, int what) {
        if (!isMonth(m)) {
            return NO;
        }
        long day = now.dayOf(m);
        switch (what) {
            case 0: return day;
            case 1: return now.restOf(m);
            case 2: return day < 0 ? NO : now.yearOf(day);
            case 3: return day < 0 ? NO : day - now.firstDayOf(now.yearOf(day));
            default: return NO;
        }
    }

    public int month(int day) {
        if (day < 0 || day > LAST_DAY) {
            return BAD;
        }
        long m = now.monthFrom(day);
        return m > LAST_MONTH ? NOT : (int) m;
    }

    public long angle(int wheel, int m) {
        Wheel it = now.numbered(wheel);
        if (it == null || !isMonth(m)) {
            return NO;
        }
        return Numbers.bitsOfDouble(360.0 * now.placeAt(wheel, m) / it.parts);
    }

    public int size(int m, int what) {
        if (!isMonth(m) || what < 0 || what > 1) {
            return BAD;
        }
        if (now.wheelCount == 0) {
            return STATE;
        }
        float large = now.sizeAt(m);
        return what == 0 ? Numbers.bitsOfFloat(large) : (int) (large * 1000.0f);
    }

    public int most(int n, int a, int b, int c, int d) {
        if (n < 1 || n > 4 || !isMonth(a)) {
            return BAD;
        }
        if ((n > 1 && !isMonth(b)) || (n > 2 && !isMonth(c)) || (n > 3 && !isMonth(d))) {
            return BAD;
        }
        if (now.wheelCount == 0) {
            return STATE;
        }
        int best = a;
        float largest = now.sizeAt(a);
        for (int i = 1; i < n; i++) {
            int m = i == 1 ? b : i == 2 ? c : d;
            float large = now.sizeAt(m);
            if (large > largest) {
                best = m;
                largest = large;
            }
        }
        return best + LAST_MONTH;
    }

    public long period(int wheel) {
        Wheel it = now.numbered(wheel);
        return it == null ? NO : it.ownPeriod();
    }

    public long allRound(int set) {
        long all = 1;
        for (int i = 0; i < 32; i++) {
            if ((set >>> i & 1) == 1) {
                Wheel it = now.numbered(i);
                long own = it == null ? NO : it.ownPeriod();
                all = own == NO ? NO : Numbers.leastCommon(all, own);
                if (all == NO) {
                    return NO;
                }
            }
        }
        return all;
    }

    public int meeting(int a, int p, int b, int q) {
        Wheel one = now.numbered(a);
        Wheel other = now.numbered(b);
        if (one == null || other == null) {
            return NONE;
        }
        if (!one.hasPlace(p) || !other.hasPlace(q)) {
            return BAD;
        }
        int m = one.kind == GEARED ? now.firstMeeting(b, q, a, p) : now.firstMeeting(a, p, b, q);
        return m > LAST_MONTH ? NOT : m;
    }

    public int spell(int m) {
        if (!isMonth(m)) {
            return BAD;
        }
        writePaper(find(m, ON_PAPER));
        return sheet.size;
    }

    public int paper(int m, int i) {
        if (!isMonth(m)) {
            return BAD;
        }
        writePaper(find(m, ON_PAPER));
        return sheet.byteAt(i);
    }

    public int gap(int m, int n, int what) {
        if (!isMonth(m) || n < 1 || n > MOST_GAPS || what < 0 || what > 2) {
            return BAD;
        }
        if (find(m, n + 1) < n + 1) {
            return NOT;
        }
        int common = 0;
        int often = 0;
        int greatest = 0;
        for (int i = 0; i < n; i++) {
            int it = gapNumbered(i);
            int times = countGaps(n, it);
            if (times > often || (times == often && it < common)) {
                common = it;
                often = times;
            }
            greatest = Math.max(greatest, it);
        }
        if (what == 0) {
            return common;
        }
        return what == 1 ? often : greatest;
    }

    public int feed(int letter) {
        if (letter < 0 || letter > 127) {
            return BAD;
        }
        return tape.add(letter) ? tape.size : FULL;
    }

    public int read() {
        int fault = tape.formFault();
        if (fault == 0) {
            fault = tape.doingFault(now.wheelCount);
        }
        tape.size = 0;
        if (fault != 0) {
            return fault;
        }
        for (int i = 0; i < tape.statements; i++) {
            doStatement(i);
        }
        textsDone++;
        return tape.statements;
    }

    public int tray(int tray, int kind, int n) {
        Tray it = trayNumbered(tray);
        if (it == null) {
            return NONE;
        }
        if (kind == NONE) {
            it.empty(NONE, 0);
            return 1;
        }
        if (!Wheel.isKind(kind) || n > Tray.MOST_PLACES) {
            return BAD;
        }
        if (n < 0) {
            return BELOW_NOTHING;
        }
        it.empty(kind, n);
        return 1;
    }

    public int lay(int tray, int i, int wheel) {
        Tray it = trayNumbered(tray);
        if (it == null || (wheel != NONE && !now.has(wheel))) {
            return NONE;
        }
        if (it.isMissing()) {
            return MISSING;
        }
        if (!it.hasPlace(i)) {
            return OUTSIDE;
        }
        Wheel thing = now.numbered(wheel);
        if (thing != null && !Wheel.isUnder(thing.kind, it.kind)) {
            return KINDLESS;
        }
        it.setThing(i, thing);
        return 1;
    }

    public int laid(int tray, int i, int what) {
        Tray it = trayNumbered(tray);
        if (it == null || what < 0 || what > 3) {
            return NONE;
        }
        if (it.isMissing()) {
            return MISSING;
        }
        if (!it.hasPlace(i)) {
            return OUTSIDE;
        }
        Wheel thing = it.thingAt(i);
        return thing == null ? NOT : thing.told(what);
    }

    public int like(int tray, int other) {
        Tray it = trayNumbered(tray);
        Tray model = trayNumbered(other);
        if (it == null || model == null) {
            return NONE;
        }
        if (model.isMissing()) {
            return MISSING;
        }
        it.become(model);
        return it.size;
    }

    public int list(int list, int n) {
        Items it = listNumbered(list);
        if (it == null) {
            return NONE;
        }
        if (n > Items.MOST_ITEMS) {
            return BAD;
        }
        if (n < NONE) {
            return BELOW_NOTHING;
        }
        it.clear(n);
        return 1;
    }

    public int put(int list, int i, long v) {
        Items it = listNumbered(list);
        if (it == null) {
            return NONE;
        }
        if (it.isMissing()) {
            return MISSING;
        }
        if (!it.hasItem(i)) {
            return OUTSIDE;
        }
        it.setItem(i, v);
        return 1;
    }

    public long get(int list, int i) {
        Items it = listNumbered(list);
        return it == null ? NO : it.itemAt(i);
    }

    public int fill(int list, int m) {
        Items it = listNumbered(list);
        if (it == null) {
            return NONE;
        }
        if (!isMonth(m)) {
            return BAD;
        }
        if (it.isMissing()) {
            return MISSING;
        }
        int many = find(m, it.size);
        for (int i = 0; i < many && i < found.length; i++) {
            it.setItem(i, found[i]);
        }
        return many;
    }

    public int judge(int list, int m) {
        Items it = listNumbered(list);
        if (it == null) {
            return NONE;
        }
        if (!isMonth(m)) {
            return BAD;
        }
        if (it.isMissing()) {
            return MISSING;
        }
        int many = find(m, it.size);
        for (int i = 0; i < it.size; i++) {
            if (i >= many || i >= found.length || it.itemAt(i) != found[i]) {
                return i;
            }
        }
        return NOT;
    }

    public int count(int what) {
        switch (what) {
            case 0: return now.wheelCount;
            case 1: return tape.size;
            case 2: return textsDone;
            case 3: return now.node;
            case 4: return now.apse;
            default: return Setup.isRule(what - FIRST_RULE_COUNTED) ? now.ruled(what - FIRST_RULE_COUNTED) : BAD;
        }
    }

    public int image() {
        kept.become(now);
        imageTaken = true;
        return now.wheelCount;
    }

    public int undo() {
        if (!imageTaken) {
            return STATE;
        }
        now.become(kept);
        return now.wheelCount;
    }

    private static boolean isMonth(int m) {
        return m >= -LAST_MONTH && m <= LAST_MONTH;
    }

    private static boolean isCycle(int k) {
        return k >= 1 && k <= MOST_CYCLE;
    }

    private static boolean isStretch(int a, int b, int longest) {
        return isMonth(a) && isMonth(b) && a <= b && b - a < longest;
    }

    private Tray trayNumbered(int number) {
        return number >= 0 && number < trays.length ? trays[number] : null;
    }

    private Items listNumbered(int number) {
        return number >= 0 && number < lists.length ? lists[number] : null;
    }

    /** A family is kept as its size at its latest month: no two alive have the same one. */
    private int rollOnto(int a, int i, int k) {
        int size = 0;
        int side = 0;
        if (now.eclipseAt(a + i) != DARK) {
            side = now.sideAt(a + i);
            boolean goesOn = rolledSize(i - k) > 0 && rolledSides[i - k] == side;
            size = goesOn ? rolledSizes[i - k] + 1 : 1;
        }
        if (i >= 0 && i < ROLL_SPAN) {
            rolledSizes[i] = size;
            rolledSides[i] = side;
        }
        return size;
    }

    private int rolledSize(int i) {
        return i >= 0 && i < rolledSizes.length ? rolledSizes[i] : 0;
    }

    private int find(int m, int most) {
        int many = 0;
        int end = Math.min(m + SPAN - 1, LAST_MONTH);
        for (int there = m; there <= end && many < most && many < found.length; there++) {
            if (now.eclipseAt(there) != DARK) {
                found[many] = there;
                many++;
            }
        }
        return many;
    }

    private int findRecords(int most, int what) {
        int many = 0;
        int least = MOST_PARTS;
        // None is less than 0.
        for (int k = 1; k <= most && many < recordRow.length && least > 0; k++) {
            int far = now.driftOf(k, what);
            if (far < least) {
                least = far;
                recordRow[many] = k;
                many++;
            }
        }
        return many;
    }

    private int gapNumbered(int i) {
        return i >= 0 && i + 1 < found.length ? found[i + 1] - found[i] : 0;
    }

    private int countGaps(int n, int wanted) {
        int times = 0;
        for (int i = 0; i < n; i++) {
            if (gapNumbered(i) == wanted) {
                times++;
            }
        }
        return times;
    }

    private void writePaper(int many) {
        sheet.size = 0;
        for (int i = 0; i < many && i < found.length; i++) {
            if (i > 0) {
                sheet.add(';');
            }
            sheet.addNumber(found[i]);
            sheet.add(letterOf(now.eclipseAt(found[i])));
            sheet.add('0' + now.sideAt(found[i]));
        }
    }

    private static int letterOf(int eclipse) {
        if (eclipse == PARTIAL) {
            return 'p';
        }
        return eclipse == WHOLE ? 'w' : 'r';
    }

    private void doStatement(int i) {
        int letter = tape.letterOf(i);
        int number = tape.numberOf(i, 0);
        switch (letter) {
            case 'n':
                now.node = number;
                break;
            case 'a':
                now.apse = number;
                break;
            case 'o':
                now.setRule(Setup.OUTER, number);
                break;
            case 'i':
                now.setRule(Setup.INNER, number);
                break;
            default:
                now.addWheel(Tape.kindOf(letter), tape.numberOf(i, 1), number, tape.numberOf(i, 2));
        }
    }

    /** The thing itself: the list of wheels and the trays may hold the same one. */
    private static final class Wheel {
        final int kind;
        final int parts;
        final int made;
        int step;
        int start;

        Wheel(int kind, int parts, int step, int start, int made) {
            this.kind = kind;
            this.parts = parts;
            this.step = step;
            this.start = start;
            this.made = made;
        }

        static boolean isKind(int kind) {
            return kind >= PLAIN && kind <= GEARED;
        }

        static boolean canBe(int kind, int parts, int step, int start) {
            return isKind(kind) && parts >= 2 && parts <= MOST_PARTS
                && step >= 0 && step <= MOST_STEP && start >= 0 && start < parts;
        }

        static int kindAbove(int kind) {
            switch (kind) {
                case BACK: return PLAIN;
                case LAME: return PLAIN;
                case HASTY: return BACK;
                case GEARED: return LAME;
                default: return NONE;
            }
        }

        static boolean isUnder(int kind, int wanted) {
            int it = kind;
            for (int i = 0; i <= GEARED && it != NONE; i++) {
                if (it == wanted) {
                    return true;
                }
                it = kindAbove(it);
            }
            return false;
        }

        static int madeDigits(int kind, int start, int number) {
            int digits = start == 0 ? 12 : 1;
            if (isUnder(kind, BACK)) {
                digits = digits * 10 + 3;
            }
            if (isUnder(kind, LAME)) {
                digits = digits * 10 + 4;
            }
            if (kind == HASTY) {
                digits = digits * 10 + 5;
            }
            if (kind == GEARED) {
                digits = digits * 10 + 6;
            }
            return kind == GEARED && number == 0 ? digits * 10 + 7 : digits;
        }

        Wheel copied() {
            return new Wheel(kind, parts, step, start, made);
        }

        int told(int what) {
            switch (what) {
                case 0: return kind;
                case 1: return parts;
                case 2: return step;
                case 3: return start;
                case 4: return made;
                default: return NONE;
            }
        }

        boolean hasPlace(int place) {
            return place >= 0 && place < parts;
        }

        /** A geared wheel goes by the rounds that drive it instead of by months. */
        long wayBy(long drive) {
            switch (kind) {
                case BACK: return start - step * drive;
                // A shift cuts down below 0, too.
                case LAME: return start + step * (drive >> 1);
                case HASTY: return start - step * (2 * drive);
                default: return start + step * drive;
            }
        }

        int near(int p, int q) {
            return (int) Math.min(Numbers.leftOver(p - q, parts), Numbers.leftOver(q - p, parts));
        }

        int termNumbered(int wanted) {
            int x = step;
            int y = parts;
            for (int i = 0; i < MOST_TERMS && y > 0; i++) {
                if (i == wanted) {
                    return x / y;
                }
                int left = x % y;
                x = y;
                y = left;
            }
            return NONE;
        }

        long convergentNumbered(int wanted, int part) {
            long above = 1;
            long aboveAhead = 0;
            long below = 0;
            long belowAhead = 1;
            for (int i = 0; i <= wanted && i < MOST_TERMS; i++) {
                long by = termNumbered(i);
                long nextAbove = by * above + aboveAhead;
                long nextBelow = by * below + belowAhead;
                aboveAhead = above;
                belowAhead = below;
                above = nextAbove;
                below = nextBelow;
            }
            return part == 0 ? above : below;
        }

        int nearestBelowLine(int most) {
            int best = 1;
            long bestFar = near((int) Numbers.leftOver(step, parts), 0);
            for (int below = 2; below <= most; below++) {
                long far = near((int) Numbers.leftOver((long) step * below, parts), 0);
                // Crosswise, so that no division rounds: far over below against bestFar over best.
                if (far * best < bestFar * below) {
                    best = below;
                    bestFar = far;
                }
            }
            return best;
        }

        long ownPeriod() {
            if (kind == GEARED) {
                return NO;
            }
            long stepAMonth = kind == HASTY ? 2L * step : step;
            long period = Numbers.cutDown(parts, Numbers.commonDivisor(parts, stepAMonth));
            // A lame wheel rests every other month, unless its steps are whole rounds and it rests always.
            return kind == LAME && period > 1 ? 2 * period : period;
        }
    }

    /** All that the image keeps. */
    private static final class Setup {
        static final int OUTER = 0, INNER = 1, APSE_LIMIT = 2, DAYS_ABOVE = 3, DAYS_BELOW = 4, LEAP = 5, RULES = 6;
        static final int[] RULE_LEAST = {0, 0, 0, 1, 1, 1};
        static final int[] RULE_MOST = {99999, 99999, 99999, 100000, 1000, 400};

        final Wheel[] wheels = new Wheel[MOST_WHEELS];
        final int[] rules = {15, 9, 20, 59, 2, 4};
        int wheelCount = 0;
        int node = 0;
        int apse = NONE;

        static boolean isRule(int what) {
            return what >= 0 && what < RULES;
        }

        static boolean isWithinRule(int what, int v) {
            return isRule(what) && v >= RULE_LEAST[what] && v <= RULE_MOST[what];
        }

        int ruled(int what) {
            return isRule(what) ? rules[what] : NONE;
        }

        void setRule(int what, int v) {
            if (isRule(what)) {
                rules[what] = v;
            }
        }

        /** Copies, so that a wheel of one setup is never turned by way of the other. */
        void become(Setup other) {
            for (int i = 0; i < MOST_WHEELS; i++) {
                Wheel it = other.wheels[i];
                wheels[i] = it == null ? null : it.copied();
            }
            for (int i = 0; i < RULES; i++) {
                rules[i] = other.rules[i];
            }
            wheelCount = other.wheelCount;
            node = other.node;
            apse = other.apse;
        }

        Wheel numbered(int number) {
            return number >= 0 && number < wheelCount && number < MOST_WHEELS ? wheels[number] : null;
        }

        boolean has(int number) {
            return numbered(number) != null;
        }

        int addWheel(int kind, int parts, int step, int start) {
            if (wheelCount >= MOST_WHEELS) {
                return FULL;
            }
            int number = wheelCount;
            wheels[number] = new Wheel(kind, parts, step, start, Wheel.madeDigits(kind, start, number));
            wheelCount++;
            return number;
        }

        int dropLast() {
            int last = wheelCount - 1;
            if (last < 0 || last >= MOST_WHEELS) {
                return STATE;
            }
            wheels[last] = null;
            wheelCount = last;
            node = node == last ? 0 : node;
            apse = apse == last ? NONE : apse;
            return wheelCount;
        }

        long wayAt(int number, int m) {
            int driver = number;
            Wheel it = numbered(driver);
            while (driver > 0 && it != null && it.kind == GEARED) {
                driver--;
                it = numbered(driver);
            }
            long drive = m;
            while (driver < number && it != null) {
                drive = Numbers.leftOver(Numbers.cutDown(it.wayBy(drive), it.parts), MOST_ROUNDS_TOLD);
                driver++;
                it = numbered(driver);
            }
            return it == null ? 0 : it.wayBy(drive);
        }

        long roundsAt(int number, int m) {
            Wheel it = numbered(number);
            return it == null ? 0 : Numbers.cutDown(wayAt(number, m), it.parts);
        }

        int placeAt(int number, int m) {
            Wheel it = numbered(number);
            return it == null ? 0 : (int) Numbers.leftOver(wayAt(number, m), it.parts);
        }

        int farAt(int m) {
            Wheel it = numbered(node);
            if (it == null) {
                return 0;
            }
            int place = placeAt(node, m);
            return Math.min(it.near(place, 0), it.near(place, it.parts / 2));
        }

        int sideAt(int m) {
            Wheel it = numbered(node);
            if (it == null) {
                return 0;
            }
            int place = placeAt(node, m);
            return it.near(place, it.parts / 2) < it.near(place, 0) ? 1 : 0;
        }

        int eclipseAt(int m) {
            if (wheelCount == 0) {
                return DARK;
            }
            int far = farAt(m);
            if (far > rules[OUTER]) {
                return DARK;
            }
            if (far > rules[INNER]) {
                return PARTIAL;
            }
            Wheel it = numbered(apse);
            return it != null && it.near(placeAt(apse, m), 0) > rules[APSE_LIMIT] ? RINGED : WHOLE;
        }

        int relatives(int m, int k) {
            int side = sideAt(m);
            int many = 0;
            for (int i = 1; i <= MOST_FAMILY_STEPS; i++) {
                int there = m + i * k;
                if (!isMonth(there) || eclipseAt(there) == DARK || sideAt(there) != side) {
                    return many;
                }
                many = i;
            }
            return many;
        }

        /** Steps by the periods of wheel a, lest all months be looked at; beyond the last month, if there is none. */
        int firstMeeting(int a, int p, int b, int q) {
            Wheel it = numbered(a);
            int none = LAST_MONTH + 1;
            long period = it == null ? NO : it.ownPeriod();
            int round = period < 1 || period > LAST_MONTH ? none : (int) period;
            int least = none;
            for (int first = 0; first < round && first < least; first++) {
                boolean isThere = placeAt(a, first) == p;
                for (int m = first; isThere && m < least; m += round) {
                    if (placeAt(b, m) == q) {
                        least = m;
                    }
                }
            }
            return least;
        }

        int driftOf(int k, int what) {
            Wheel it = numbered(node);
            if (it == null) {
                return 0;
            }
            int from = placeAt(node, 0) + (what == 0 ? 0 : it.parts / 2);
            return it.near(placeAt(node, k), from);
        }

        long dayOf(int m) {
            return Numbers.cutDown((long) rules[DAYS_ABOVE] * m, rules[DAYS_BELOW]);
        }

        long restOf(int m) {
            return (long) rules[DAYS_ABOVE] * m - rules[DAYS_BELOW] * dayOf(m);
        }

        long monthFrom(int day) {
            long wanted = (long) day * rules[DAYS_BELOW];
            return Numbers.cutDown(wanted + rules[DAYS_ABOVE] - 1, rules[DAYS_ABOVE]);
        }

        /** By whole leap cycles: up to 27 million years are too many to go through. */
        long yearOf(long day) {
            long cycleDays = 365L * rules[LEAP] + 1;
            long rest = Numbers.leftOver(day, cycleDays);
            long inCycle = rest < 366 ? 0 : (rest - 1) / 365;
            return Numbers.cutDown(day, cycleDays) * rules[LEAP] + inCycle;
        }

        long firstDayOf(long year) {
            long leapYearsAhead = Numbers.cutDown(year + rules[LEAP] - 1, rules[LEAP]);
            return 365 * year + leapYearsAhead;
        }

        float sizeAt(int m) {
            if (eclipseAt(m) == DARK) {
                return 0.0f;
            }
            return (float) (rules[OUTER] - farAt(m)) / (float) (rules[OUTER] + 1);
        }
    }

    private static final class Tray {
        static final int MOST_PLACES = 12;

        final Wheel[] places = new Wheel[MOST_PLACES];
        int kind = NONE;
        int size = 0;

        boolean isMissing() {
            return kind == NONE;
        }

        boolean hasPlace(int i) {
            return i >= 0 && i < size && i < MOST_PLACES;
        }

        Wheel thingAt(int i) {
            return hasPlace(i) ? places[i] : null;
        }

        void setThing(int i, Wheel thing) {
            if (hasPlace(i)) {
                places[i] = thing;
            }
        }

        void empty(int forKind, int n) {
            kind = forKind;
            size = n;
            for (int i = 0; i < MOST_PLACES; i++) {
                places[i] = null;
            }
        }

        void become(Tray other) {
            kind = other.kind;
            size = other.size;
            for (int i = 0; i < MOST_PLACES; i++) {
                places[i] = other.places[i];
            }
        }
    }

    private static final class Items {
        static final int MOST_ITEMS = 40;

        final long[] values = new long[MOST_ITEMS];
        int size = NONE;

        boolean isMissing() {
            return size == NONE;
        }

        boolean hasItem(int i) {
            return i >= 0 && i < size && i < MOST_ITEMS;
        }

        long itemAt(int i) {
            return hasItem(i) ? values[i] : NO;
        }

        void setItem(int i, long v) {
            if (hasItem(i)) {
                values[i] = v;
            }
        }

        void clear(int n) {
            size = n;
            for (int i = 0; i < MOST_ITEMS; i++) {
                values[i] = 0;
            }
        }
    }

    private static final class Sheet {
        final int[] bytes = new int[ON_PAPER * 10];
        int size = 0;

        void add(int letter) {
            if (size >= 0 && size < bytes.length) {
                bytes[size] = letter;
                size++;
            }
        }

        void addNumber(int v) {
            if (v < 0) {
                add('-');
            }
            int left = Math.abs(v);
            int unit = 1;
            for (int i = 0; i < 6 && left >= unit * 10; i++) {
                unit *= 10;
            }
            for (int i = unit; i >= 1; i /= 10) {
                add('0' + left / i % 10);
            }
        }

        int byteAt(int i) {
            return i >= 0 && i < size && i < bytes.length ? bytes[i] : NONE;
        }
    }

    /** The bytes fed, and the statements that they were found to tell. */
    private static final class Tape {
        static final int MOST_BYTES = 80;
        static final int MOST_STATEMENTS = 27;
        static final int NUMBERS_EACH = 3;
        static final int MOST_DIGITS = 6;

        final int[] bytes = new int[MOST_BYTES];
        int size = 0;
        final int[] letterPlaces = new int[MOST_STATEMENTS];
        final int[] letters = new int[MOST_STATEMENTS];
        final int[] numbers = new int[MOST_STATEMENTS * NUMBERS_EACH];
        int statements = 0;
        int place = 0;
        boolean faulty = false;

        static int kindOf(int letter) {
            switch (letter) {
                case 'w': return PLAIN;
                case 'b': return BACK;
                case 'l': return LAME;
                case 'h': return HASTY;
                case 'g': return GEARED;
                default: return NONE;
            }
        }

        boolean add(int letter) {
            if (size < 0 || size >= MOST_BYTES) {
                return false;
            }
            bytes[size] = letter;
            size++;
            return true;
        }

        int letterOf(int i) {
            return i >= 0 && i < MOST_STATEMENTS ? letters[i] : 0;
        }

        int numberOf(int i, int which) {
            int there = i * NUMBERS_EACH + which;
            return there >= 0 && there < numbers.length ? numbers[there] : 0;
        }

        void setNumber(int i, int which, int v) {
            int there = i * NUMBERS_EACH + which;
            if (there >= 0 && there < numbers.length) {
                numbers[there] = v;
            }
        }

        int formFault() {
            statements = 0;
            place = 0;
            faulty = false;
            boolean more = true;
            for (int i = 0; i < MOST_STATEMENTS && more; i++) {
                parseStatement(i);
                more = !faulty && accept(';');
            }
            return faulty || place < size ? -100 - place : 0;
        }

        void parseStatement(int i) {
            int letter = byteHere();
            boolean isWheel = kindOf(letter) != NONE;
            boolean isOther = letter == 'n' || letter == 'a' || letter == 'o' || letter == 'i';
            if (i < 0 || i >= MOST_STATEMENTS || (!isWheel && !isOther)) {
                faulty = true;
                return;
            }
            letters[i] = letter;
            letterPlaces[i] = place;
            place++;
            setNumber(i, 0, parseNumber());
            if (isWheel) {
                parseWheel(i);
            }
            statements = i + 1;
        }

        void parseWheel(int i) {
            faulty = faulty || !accept('/');
            setNumber(i, 1, parseNumber());
            setNumber(i, 2, !faulty && accept('+') ? parseNumber() : 0);
        }

        int parseNumber() {
            int value = 0;
            int digits = 0;
            for (int i = 0; i < MOST_DIGITS && !faulty && isDigit(byteHere()); i++) {
                value = value * 10 + byteHere() - '0';
                digits++;
                place++;
            }
            faulty = faulty || digits == 0;
            return value;
        }

        boolean isDigit(int letter) {
            return letter >= '0' && letter <= '9';
        }

        int byteHere() {
            return place >= 0 && place < size && place < MOST_BYTES ? bytes[place] : NONE;
        }

        boolean accept(int letter) {
            boolean here = byteHere() == letter;
            if (here) {
                place++;
            }
            return here;
        }

        /** Nothing is done on trial: all that a statement can ask of those ahead of it is how many wheels there are. */
        int doingFault(int wheelsThere) {
            int wheels = wheelsThere;
            for (int i = 0; i < statements && i < MOST_STATEMENTS; i++) {
                if (!canBeDone(i, wheels)) {
                    return -300 - letterPlaces[i];
                }
                if (kindOf(letters[i]) != NONE) {
                    wheels++;
                }
            }
            return 0;
        }

        boolean canBeDone(int i, int wheels) {
            int number = numberOf(i, 0);
            switch (letterOf(i)) {
                case 'n': return number < wheels;
                case 'a': return number < wheels;
                case 'o': return Setup.isWithinRule(Setup.OUTER, number);
                case 'i': return Setup.isWithinRule(Setup.INNER, number);
                default:
                    return wheels < MOST_WHEELS
                        && Wheel.canBe(kindOf(letterOf(i)), numberOf(i, 1), number, numberOf(i, 2));
            }
        }
    }

    /** Divisors are looked at here, though no setup lets one become 0. */
    private static final class Numbers {
        static long cutDown(long a, long b) {
            return b <= 0 ? 0 : Math.floorDiv(a, b);
        }

        static long leftOver(long a, long b) {
            return b <= 0 ? 0 : Math.floorMod(a, b);
        }

        static long commonDivisor(long a, long b) {
            long x = a;
            long y = b;
            for (int i = 0; i < 200 && y > 0; i++) {
                long rest = x % y;
                x = y;
                y = rest;
            }
            return x;
        }

        /** NO, if it is no long. */
        static long leastCommon(long a, long b) {
            long by = cutDown(b, commonDivisor(a, b));
            if (by <= 0 || a > GREATEST_LONG / by) {
                return NO;
            }
            return a * by;
        }

        /** Of 0 or a normal number above it, put together here: the part of Java kept to has no call for the bits. */
        static long bitsOfDouble(double v) {
            if (v <= 0.0) {
                return 0;
            }
            double scaled = v;
            long exponent = 1023;
            for (int i = 0; i < 1023 && scaled >= 2.0; i++) {
                scaled /= 2.0;
                exponent++;
            }
            for (int i = 0; i < 1022 && scaled < 1.0; i++) {
                scaled *= 2.0;
                exponent--;
            }
            return (exponent << 52) + (long) ((scaled - 1.0) * 4503599627370496.0);
        }

        /** Of 0 or a normal number below 2, as no size is greater. */
        static int bitsOfFloat(float v) {
            if (v <= 0.0f) {
                return 0;
            }
            float scaled = v;
            int exponent = 127;
            for (int i = 0; i < 126 && scaled < 1.0f; i++) {
                scaled *= 2.0f;
                exponent--;
            }
            return (exponent << 23) + (int) ((scaled - 1.0f) * 8388608.0f);
        }
    }
}
