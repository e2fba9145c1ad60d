/**
 * The terms, sentence by sentence: each one that names a boundary is quoted above its test, and each row names the
 * promise by which it is seen.
 */
public final class TermsTest {
    private static final Check check = new Check("TermsTest");

    private interface MonthCall {
        long answer(EclipseWheel x, int m);
    }

    private static void due(String call, long got, long want) {
        check.due(call, got, want);
    }

    public static void main(String[] args) {
        term1Months();
        term1MonthsBound();
        term1SixAtMost();
        term1Bounds();
        term1Ways();
        term1Geared();
        term1GearedFirst();
        term1Rounds();
        term1Made();
        term1Near();
        term2NodeAndApse();
        term2Limits();
        term2Nodes();
        term2Eclipse();
        term2Family();
        term2Roll();
        term2RollEnds();
        term3Drift();
        term3Records();
        term3Terms();
        term3Convergents();
        term4Days();
        term4Years();
        term4AngleAndSize();
        term5Form();
        term5TooEarly();
        term5CannotBeDone();
        term5Trays();
        term5Lists();
        term5Image();
        term6Period();
        term6AllRound();
        term6Meeting();
        term6Paper();
        term6Gaps();
        check.end();
    }

    private static EclipseWheel node(int kind, int parts, int step, int start) {
        EclipseWheel x = new EclipseWheel();
        x.wheel(kind, parts, step, start);
        return x;
    }

    /** Answers at the first and the last MONTH, and the refusal one MONTH beyond, and far beyond. */
    private static void dueMonths(String call, MonthCall it, long first, long last, long refusal) {
        EclipseWheel x = Check.small();
        x.list(0, 3);
        due(call + " at the first month", it.answer(x, -100000), first);
        due(call + " at the last month", it.answer(x, 100000), last);
        for (int m : new int[] {-100001, 100001, Integer.MIN_VALUE, Integer.MAX_VALUE}) {
            due(call + " at " + m, it.answer(x, m), refusal);
        }
    }

    // "MONTHS are whole numbers m (-100000 .. 100000)."
    private static void term1Months() {
        dueMonths("6 at", (x, m) -> x.at(0, m), 0, 0, Check.BAD);
        dueMonths("7 rounds", (x, m) -> x.rounds(0, m), -5000, 5000, Check.NO);
        for (int what = 0; what < 3; what++) {
            int asked = what;
            int want = what == 0 ? 2 : 0;
            dueMonths("10 eclipse " + what, (x, m) -> x.eclipse(m, asked), want, want, Check.BAD);
            int end = what == 2 ? 101 : 0;
            int otherEnd = what == 2 ? 101 : 200000;
            dueMonths("13 family " + what, (x, m) -> x.family(m, 2000, asked), what == 1 ? otherEnd : end,
                what == 0 ? end : otherEnd, Check.BAD);
        }
        dueMonths("11 eclipses from and to", (x, m) -> x.eclipses(m, m, 0), 1, 1, Check.BAD);
        dueMonths("12 next later", (x, m) -> x.next(m, 0), 1, Check.NOT, Check.BAD);
        dueMonths("12 next earlier", (x, m) -> x.next(m, 1), Check.NOT, 199999, Check.BAD);
        dueMonths("14 roll from and to", (x, m) -> x.roll(m, m, 1, 0), 1, 1, Check.BAD);
        dueMonths("22 date", (x, m) -> x.date(m, 0), -2950000, 2950000, Check.NO);
        dueMonths("22 date's rest", (x, m) -> x.date(m, 1), 0, 0, Check.NO);
        dueMonths("22 date's year", (x, m) -> x.date(m, 2), Check.NO, 8076, Check.NO);
        dueMonths("24 angle", (x, m) -> x.angle(0, m), 0, 0, Check.NO);
        dueMonths("25 size", (x, m) -> x.size(m, 0), 0x3f400000, 0x3f400000, Check.BAD);
        dueMonths("25 grade", (x, m) -> x.size(m, 1), 750, 750, Check.BAD);
        dueMonths("30 spell", (x, m) -> x.spell(m), 108, 8, Check.BAD);
        dueMonths("31 paper", (x, m) -> x.paper(m, 0), '-', '1', Check.BAD);
        dueMonths("32 gap", (x, m) -> x.gap(m, 1, 0), 1, Check.NOT, Check.BAD);
        dueMonths("42 fill", (x, m) -> x.fill(0, m), 3, 1, Check.BAD);
        dueMonths("43 judge", (x, m) -> x.judge(0, m), 0, 0, Check.BAD);
    }

    /** Where a call takes several MONTHS, each of them is bound for itself. */
    private static void term1MonthsBound() {
        dueMonths("26 most a", (x, m) -> x.most(1, m, 0, 0, 0), 0, 200000, Check.BAD);
        dueMonths("26 most b", (x, m) -> x.most(2, 5, m, 0, 0), 0, 200000, Check.BAD);
        dueMonths("26 most c", (x, m) -> x.most(3, 5, 5, m, 0), 0, 200000, Check.BAD);
        dueMonths("26 most d", (x, m) -> x.most(4, 5, 5, 5, m), 0, 200000, Check.BAD);
        EclipseWheel x = Check.small();
        due("11 a is no month, b is one", x.eclipses(-100001, -100000, 0), Check.BAD);
        due("11 a is the first month", x.eclipses(-100000, -99999, 0), 2);
        due("11 b is no month, a is one", x.eclipses(100000, 100001, 0), Check.BAD);
        due("11 b is the last month", x.eclipses(99999, 100000, 0), 2);
        due("14 a is no month, b is one", x.roll(-100001, -100000, 1, 0), Check.BAD);
        due("14 a is the first month", x.roll(-100000, -99999, 1, 0), 1);
        due("14 b is no month, a is one", x.roll(100000, 100001, 1, 0), Check.BAD);
        due("14 b is the last month", x.roll(99999, 100000, 1, 0), 1);
    }

    // "WHEELS 0, 1, .. as they come (6 at most)"
    private static void term1SixAtMost() {
        EclipseWheel x = new EclipseWheel();
        for (int i = 0; i < 6; i++) {
            due("2 number " + i, x.wheel(0, 10 + i, 1, 0), i);
            due("3 as it came " + i, x.of(i, 1), 10 + i);
        }
        due("2 a seventh", x.wheel(0, 16, 1, 0), Check.FULL);
        due("34 a seventh by a text", Check.read(x, "w1/16"), -300);
        due("5 room again", x.drop(), 5);
        due("2 the sixth again", x.wheel(0, 17, 1, 0), 5);
        due("3 the sixth anew", x.of(5, 1), 17);
        due("2 a seventh again", x.wheel(0, 16, 1, 0), Check.FULL);
        due("45 an image of six", x.image(), 6);
        x.drop();
        due("46 six again", x.undo(), 6);
        due("2 a seventh behind undo", x.wheel(0, 16, 1, 0), Check.FULL);
        due("3 no seventh", x.of(6, 1), Check.NONE);
    }

    // "KIND, PARTS (2 .. 100000), STEP (0 .. 99999), START (0 .. PARTS less 1)"
    private static void term1Bounds() {
        int[][] rows = {
            {0, 2, 0, 0, 1}, {4, 2, 0, 0, 1}, {-1, 2, 0, 0, 0}, {5, 2, 0, 0, 0},
            {0, 1, 0, 0, 0}, {0, 100000, 0, 0, 1}, {0, 100001, 0, 0, 0},
            {0, 2, -1, 0, 0}, {0, 2, 99999, 0, 1}, {0, 2, 100000, 0, 0},
            {0, 2, 0, -1, 0}, {0, 2, 0, 1, 1}, {0, 2, 0, 2, 0},
            {0, 100000, 0, 99999, 1}, {0, 100000, 0, 100000, 0},
        };
        for (int[] r : rows) {
            String told = r[0] + " " + r[1] + " " + r[2] + " " + r[3];
            due("2 wheel " + told, new EclipseWheel().wheel(r[0], r[1], r[2], r[3]), r[4] == 1 ? 0 : Check.BAD);
            if (r[0] >= 0 && r[0] < 5 && r[1] >= 2 && r[1] <= 100000) {
                EclipseWheel x = node(r[0], r[1], 5, 1);
                due("4 turn to " + told, x.turn(0, r[2], r[3]), r[4] == 1 ? 1 : Check.BAD);
                due("4 turned to " + told, x.of(0, 2), r[4] == 1 ? r[2] : 5);
                due("4 started at " + told, x.of(0, 3), r[4] == 1 ? r[3] : 1);
            }
            if (r[0] >= 0 && r[0] < 5 && r[2] >= 0 && r[3] >= 0) {
                String text = "wblhg".charAt(r[0]) + "" + r[2] + "/" + r[1] + "+" + r[3];
                due("34 read " + text, Check.read(new EclipseWheel(), text), r[4] == 1 ? 1 : -300);
            }
        }
    }

    // "WAY of a WHEEL at m": each KIND at months below 0, 0 and above, odd and even; "(half of m, cut down)"
    private static void term1Ways() {
        int[] months = {-4, -3, -2, -1, 0, 1, 2, 3, 4};
        int[][] ways = {
            {-22, -15, -8, -1, 6, 13, 20, 27, 34}, {34, 27, 20, 13, 6, -1, -8, -15, -22},
            {-8, -8, -1, -1, 6, 6, 13, 13, 20}, {62, 48, 34, 20, 6, -8, -22, -36, -50},
        };
        for (int kind = 0; kind < 4; kind++) {
            EclipseWheel x = node(kind, 10, 7, 6);
            for (int i = 0; i < months.length; i++) {
                String told = " of kind " + kind + " at " + months[i];
                due("6 at" + told, x.at(0, months[i]), Math.floorMod(ways[kind][i], 10));
                due("7 rounds" + told, x.rounds(0, months[i]), Math.floorDiv(ways[kind][i], 10));
            }
        }
        long[] atLast = {99998L + 99999L * 100000, 99998L - 99999L * 100000, 99998L + 99999L * 50000,
            99998L - 99999L * 200000};
        long[] atFirst = {99998L - 99999L * 100000, 99998L + 99999L * 100000, 99998L - 99999L * 50000,
            99998L + 99999L * 200000};
        for (int kind = 0; kind < 4; kind++) {
            EclipseWheel x = node(kind, 99999, 99999, 99998);
            due("7 a long, kind " + kind, x.rounds(0, 100000), Math.floorDiv(atLast[kind], 99999L));
            due("7 a long below, kind " + kind, x.rounds(0, -100000), Math.floorDiv(atFirst[kind], 99999L));
            due("6 a long, kind " + kind, x.at(0, 100000), 99998);
            due("6 a long below, kind " + kind, x.at(0, -100000), 99998);
            x.turn(0, 0, 5);
            due("6 step 0, kind " + kind, x.at(0, 100000), 5);
            due("7 step 0, kind " + kind, x.rounds(0, -100000), 0);
        }
    }

    // "ROUNDS at m of the WHEEL numbered one less, modulo 100000, told from 0 on"
    private static void term1Geared() {
        EclipseWheel x = new EclipseWheel();
        x.wheel(0, 2, 2, 0);
        x.wheel(4, 100000, 1, 0);
        x.wheel(1, 2, 2, 0);
        x.wheel(4, 100000, 1, 0);
        x.wheel(4, 2, 1, 1);
        int[] months = {0, 1, 99999, 100000, -1, -2, -99999, -100000};
        int[] rounds = {0, 1, 99999, 0, 99999, 99998, 1, 0};
        int[] back = {0, 99999, 1, 0, 1, 2, 99999, 0};
        for (int i = 0; i < months.length; i++) {
            due("6 geared at " + months[i], x.at(1, months[i]), rounds[i]);
            due("7 geared rounds at " + months[i], x.rounds(1, months[i]), 0);
            due("6 geared by a back one at " + months[i], x.at(3, months[i]), back[i]);
            due("6 geared by a geared one at " + months[i], x.at(4, months[i]), 1);
        }
        x.turn(3, 50000, 0);
        due("6 geared by a geared one's rounds", x.at(4, -3), 0);
        due("6 geared by a geared one's one round", x.at(4, -2), 0);
        due("7 a geared one's rounds", x.rounds(3, -3), 1);
        due("7 a geared one's greatest rounds", x.rounds(3, 1), 49999);
        x.turn(0, 0, 1);
        due("6 geared by one that stands", x.at(1, 77777), 0);
        EclipseWheel two = new EclipseWheel();
        two.wheel(3, 2, 2, 0);
        two.wheel(4, 100000, 1, 0);
        due("6 rounds twice beyond 100000", two.at(1, -75000), 50000);
        due("6 rounds twice below -100000", two.at(1, 75000), 50000);
        due("6 rounds of 200000", two.at(1, -100000), 0);
        due("6 rounds of -200000", two.at(1, 100000), 0);
    }

    // "WHEEL 0, if it is GEARED: as a WHEEL."
    private static void term1GearedFirst() {
        EclipseWheel x = node(4, 10, 3, 4);
        due("6 at 0", x.at(0, 0), 4);
        due("6 at -1", x.at(0, -1), 1);
        due("6 at 100000", x.at(0, 100000), 4);
        due("7 rounds at 100000, not modulo", x.rounds(0, 100000), 30000);
        due("7 rounds at -100000, below 0", x.rounds(0, -100000), -30000);
        due("6 angle goes so", x.angle(0, 2), 0);
        x.wheel(4, 10, 3, 4);
        due("6 the second doesn't", x.at(1, -2), (4 + 3 * 99999) % 10);
        EclipseWheel y = node(0, 10, 3, 4);
        y.drop();
        y.wheel(4, 10, 3, 4);
        due("6 as wheel 0 behind drop", y.at(0, -1), 1);
        EclipseWheel z = new EclipseWheel();
        Check.read(z, "g3/10+4");
        due("6 as wheel 0 by a text", z.at(0, -1), 1);
        z.image();
        z.drop();
        z.undo();
        due("6 as wheel 0 by undo", z.at(0, -1), 1);
    }

    // "ROUNDS: WAY over PARTS, cut down. AT: WAY less ROUNDS times PARTS."
    private static void term1Rounds() {
        EclipseWheel x = node(0, 10, 1, 0);
        int[] months = {-11, -10, -9, -1, 0, 1, 9, 10, 11};
        int[] rounds = {-2, -1, -1, -1, 0, 0, 0, 1, 1};
        int[] places = {9, 0, 1, 9, 0, 1, 9, 0, 1};
        for (int i = 0; i < months.length; i++) {
            due("7 rounds at " + months[i], x.rounds(0, months[i]), rounds[i]);
            due("6 at " + months[i], x.at(0, months[i]), places[i]);
        }
    }

    // "of WHEEL 1, and 2, if START is 0; .. of GEARED 6, and 7, if it comes as WHEEL 0"; "as they were when the WHEEL came"
    private static void term1Made() {
        String[] texts = {"w1/9+1", "w1/9", "b1/9+0", "l1/9+8", "h1/9", "g1/9+1"};
        int[] made = {1, 12, 123, 14, 1235, 146};
        EclipseWheel x = new EclipseWheel();
        for (int i = 0; i < 6; i++) {
            Check.read(x, texts[i]);
            due("3 made by " + texts[i], x.of(i, 4), made[i]);
        }
        x.image();
        for (int i = 0; i < 6; i++) {
            x.turn(i, 1, x.of(i, 3) == 0 ? 1 : 0);
            due("3 made stays, turned to or from 0: " + i, x.of(i, 4), made[i]);
        }
        x.undo();
        for (int i = 0; i < 6; i++) {
            due("3 made stays by undo " + i, x.of(i, 4), made[i]);
        }
        int[] asFirst = {1, 13, 14, 135, 1467};
        int[] asFirstAt0 = {12, 123, 124, 1235, 12467};
        for (int kind = 0; kind < 5; kind++) {
            EclipseWheel y = node(kind, 9, 1, 1);
            due("3 made as wheel 0, kind " + kind, y.of(0, 4), asFirst[kind]);
            y.turn(0, 1, 0);
            y.image();
            y.undo();
            due("3 made as wheel 0 when it came, kind " + kind, y.of(0, 4), asFirst[kind]);
            y.drop();
            y.wheel(kind, 9, 1, 0);
            due("3 made as wheel 0 once more, kind " + kind, y.of(0, 4), asFirstAt0[kind]);
        }
    }

    // "NEAR .. : the lesser of p less q and q less p, each told from 0 on (PARTS more, as long as it is below 0)."
    private static void term1Near() {
        int[][] far = {{0, 0}, {0, 0, 1}, {0, 1, 0, 1}, {0, 1, 0, 1, 1}, {0, 1, 1, 0, 1, 1}, {0, 1, 1, 0, 1, 2, 1}};
        int[][] side = {{0, 1}, {0, 1, 0}, {0, 0, 1, 0}, {0, 0, 1, 1, 0}, {0, 0, 1, 1, 1, 0}, {0, 0, 1, 1, 1, 0, 0}};
        for (int i = 0; i < far.length; i++) {
            int parts = far[i].length;
            EclipseWheel x = node(0, parts, 1, 0);
            for (int m = 0; m < parts; m++) {
                due("10 far of " + parts + " parts at " + m, x.eclipse(m, 1), far[i][m]);
                due("10 side of " + parts + " parts at " + m, x.eclipse(m, 2), side[i][m]);
                due("10 far of " + parts + " parts ahead of " + m, x.eclipse(m - parts, 1), far[i][m]);
                due("15 drift of " + parts + " parts by " + (m + 1), x.drift(m + 1, 0),
                    Math.min((m + 1) % parts, parts - (m + 1) % parts));
            }
        }
        EclipseWheel wide = node(0, 100000, 1, 0);
        due("10 far across the round", wide.eclipse(-1, 1), 1);
        due("10 far at a quarter", wide.eclipse(25000, 1), 25000);
        due("10 far behind a quarter", wide.eclipse(25001, 1), 24999);
        due("10 far behind three quarters", wide.eclipse(75001, 1), 24999);
    }

    // "NODE is one of the WHEELS, APSE one or none (NODE 0, APSE none at first)."
    private static void term2NodeAndApse() {
        EclipseWheel x = new EclipseWheel();
        due("8 node is no wheel 0 yet", x.bind(0, -1), Check.NONE);
        x.wheel(0, 20, 0, 5);
        x.wheel(0, 20, 0, 0);
        due("44 node 0", x.count(3), 0);
        due("44 apse none", x.count(4), Check.NONE);
        due("10 by node 0", x.eclipse(0, 1), 5);
        due("8 apse none again", x.bind(1, -1), 1);
        due("10 by node 1", x.eclipse(0, 1), 0);
        due("8 node can't be none", x.bind(-1, -1), Check.NONE);
        due("8 node beyond", x.bind(2, -1), Check.NONE);
        due("8 apse beyond", x.bind(0, 2), Check.NONE);
        due("8 apse below none", x.bind(0, -2), Check.NONE);
        due("44 node as it was", x.count(3), 1);
        due("8 node and apse the last one", x.bind(1, 1), 1);
        x.drop();
        due("44 node 0 by drop", x.count(3), 0);
        due("44 apse none by drop", x.count(4), Check.NONE);
        due("10 by node 0 again", x.eclipse(0, 1), 5);
    }

    // "OUTER (0 .. 99999; 15 at first), INNER (0 .. 99999; 9 at first), APSE's (0 .. 99999; 20 at first)"; P, Q, LEAP
    private static void term2Limits() {
        int[] first = {15, 9, 20, 59, 2, 4};
        int[] least = {0, 0, 0, 1, 1, 1};
        int[] most = {99999, 99999, 99999, 100000, 1000, 400};
        for (int what = 0; what < 6; what++) {
            EclipseWheel x = new EclipseWheel();
            due("9 below the least of " + what, x.rule(what, least[what] - 1), Check.BAD);
            due("9 above the most of " + what, x.rule(what, most[what] + 1), Check.BAD);
            due("44 as at first " + what, x.count(5 + what), first[what]);
            due("9 what it was at first " + what, x.rule(what, most[what]), first[what]);
            due("9 what it was at most " + what, x.rule(what, least[what]), most[what]);
            due("44 the least " + what, x.count(5 + what), least[what]);
        }
    }

    // "The nodes of NODE: 0 the place 0, 1 the place half of PARTS, cut. .. SIDE: the node that is so (0, if both are)."
    private static void term2Nodes() {
        EclipseWheel odd = node(0, 99999, 1, 0);
        due("10 the half, cut", odd.eclipse(49999, 1), 0);
        due("10 the half's side", odd.eclipse(49999, 2), 1);
        due("10 behind the half", odd.eclipse(50000, 1), 1);
        due("10 as far as both", node(0, 20, 0, 5).eclipse(0, 2), 0);
        due("10 as far as both, behind", node(0, 20, 0, 15).eclipse(0, 2), 0);
        due("10 nearer to 1", node(0, 20, 0, 6).eclipse(0, 2), 1);
        due("10 nearer to 1, behind", node(0, 20, 0, 14).eclipse(0, 2), 1);
        due("10 nearer to 0", node(0, 20, 0, 4).eclipse(0, 2), 0);
        due("10 nearer to 0, behind", node(0, 20, 0, 16).eclipse(0, 2), 0);
        due("10 odd, as far as both", node(0, 7, 0, 5).eclipse(0, 2), 0);
    }

    // "ECLIPSE at m (none without WHEELS): 0 none: FAR above OUTER; else 1 PARTIAL: FAR above INNER; else 3 RINGED: .. above
    // APSE's LIMIT; else 2 WHOLE."
    private static void term2Eclipse() {
        EclipseWheel x = node(0, 100, 0, 10);
        x.wheel(0, 100, 0, 70);
        int[][] rows = {
            {9, 0, 0, 0}, {10, 9, 0, 1}, {10, 10, 0, 2}, {10, 11, 0, 2}, {9, 10, 0, 0}, {99999, 99999, 0, 2},
        };
        for (int[] r : rows) {
            x.rule(0, r[0]);
            x.rule(1, r[1]);
            x.rule(2, r[2]);
            x.bind(0, -1);
            due("10 outer " + r[0] + ", inner " + r[1] + ", no apse", x.eclipse(0, 0), r[3]);
            x.bind(0, 1);
            due("10 outer " + r[0] + ", inner " + r[1] + ", apse", x.eclipse(0, 0), r[3] == 2 ? 3 : r[3]);
        }
        x.rule(2, 29);
        due("10 above apse's limit", x.eclipse(0, 0), 3);
        x.rule(2, 30);
        due("10 at apse's limit", x.eclipse(0, 0), 2);
        x.bind(0, 0);
        x.rule(2, 10);
        due("10 the node as apse at its limit", x.eclipse(0, 0), 2);
        x.rule(2, 9);
        due("10 the node as apse", x.eclipse(0, 0), 3);
        EclipseWheel none = new EclipseWheel();
        none.rule(0, 99999);
        due("11 none without wheels", none.eclipses(0, 3999, 0), 0);
        due("12 none without wheels", none.next(0, 0), Check.NOT);
        due("13 none without wheels", none.family(0, 1, 0), Check.NOT);
        due("14 none without wheels", none.roll(0, 199, 1, 4), 0);
    }

    // "FAMILY of m by a CYCLE k (1 .. 2000) .. each way as long as it is a MONTH, there is an ECLIPSE at it, and its SIDE is
    // that of m (500 more each way at most)."
    private static void term2Family() {
        EclipseWheel all = node(0, 2, 0, 0);
        int[] cycles = {1, 199, 200, 201, 2000};
        int[] most = {500, 500, 500, 497, 50};
        for (int i = 0; i < cycles.length; i++) {
            int k = cycles[i];
            due("13 first by " + k, all.family(0, k, 0), 100000 - most[i] * k);
            due("13 last by " + k, all.family(0, k, 1), 100000 + most[i] * k);
            due("13 many by " + k, all.family(0, k, 2), 2 * most[i] + 1);
        }
        due("13 k 0", all.family(0, 0, 2), Check.BAD);
        due("13 k 2001", all.family(0, 2001, 2), Check.BAD);
        due("13 from the last month", all.family(100000, 1, 2), 501);
        due("13 from the last month, last", all.family(100000, 1, 1), 200000);
        due("13 from the first month, first", all.family(-100000, 1, 0), 0);
        due("13 one month short of the end", all.family(99999, 2, 1), 199999);
        EclipseWheel x = Check.small();
        // places 17 .. 3 are of side 0, 7 .. 13 of side 1; 4 .. 6 are dark
        due("13 to the dark, first", x.family(10, 1, 0), 100007);
        due("13 to the dark, last", x.family(10, 1, 1), 100013);
        due("13 the other side ends it", x.family(3, 4, 1), 100003);
        due("13 no further than the first that is not so", x.family(0, 5, 2), 1);
        due("13 none at a dark month", x.family(6, 1, 2), Check.NOT);
        x.rule(0, 5);
        due("13 the other side ends it by 1", x.family(0, 1, 1), 100005);
        due("13 the other side ends it by 1, first", x.family(0, 1, 0), 99995);
        due("13 both sides as far: 0", x.family(5, 1, 2), 11);
    }

    // "ROLL from a to b (200 MONTHS at most, b no less than a) by k: .. (none is alive ahead of a)"
    private static void term2Roll() {
        EclipseWheel x = Check.small();
        due("14 200 months", x.roll(0, 199, 1, 3), 7);
        due("14 201 months", x.roll(0, 200, 1, 3), Check.BAD);
        due("14 b is a", x.roll(3, 3, 1, 0), 1);
        due("14 b less than a", x.roll(3, 2, 1, 0), Check.BAD);
        due("14 200 months from the first on", x.roll(-100000, -99801, 1, 0), 21);
        due("14 200 months to the last", x.roll(99801, 100000, 1, 0), 21);
        // the family of -3 .. 3 has had four ahead of 1
        due("14 none alive ahead of a", x.roll(1, 3, 1, 0), 1);
        due("14 none of those ahead of a counted", x.roll(1, 3, 1, 3), 3);
        due("14 none ended ahead of a", x.roll(4, 6, 1, 1), 0);
        due("14 k 1", x.roll(0, 3, 1, 0), 1);
        due("14 k 0", x.roll(0, 3, 0, 0), Check.BAD);
        due("14 k 2000", x.roll(0, 3, 2000, 0), 4);
        due("14 k 2001", x.roll(0, 3, 2001, 0), Check.BAD);
        due("14 k of all but one month", x.roll(0, 180, 180, 3), 2);
        due("14 k of all months", x.roll(0, 179, 180, 3), 1);
        due("14 no family", x.roll(4, 6, 1, 3), 0);
    }

    // "Behind each MONTH those end (are alive no more) whose latest one is k MONTHS ahead, or more (before b and k, they may
    // yet go on: those are alive at the end)."
    private static void term2RollEnds() {
        EclipseWheel x = Check.each(10);
        // eclipses at 0 (side 0), 10 (side 1), 20 (side 0), ..
        due("14 may yet go on", x.roll(0, 9, 10, 2), 1);
        due("14 may yet go on: none ended", x.roll(0, 9, 10, 1), 0);
        due("14 ended behind k months: the other side", x.roll(0, 10, 10, 1), 1);
        due("14 the other side is born", x.roll(0, 10, 10, 0), 2);
        due("14 ended and born at once", x.roll(0, 10, 10, 4), 1);
        due("14 may yet go on by 20", x.roll(0, 19, 20, 2), 2);
        due("14 goes on by 20", x.roll(0, 20, 20, 0), 2);
        due("14 goes on by 20, two", x.roll(0, 20, 20, 3), 2);
        due("14 goes on by 20, none ended", x.roll(0, 20, 20, 1), 0);
        due("14 by 3, before it ends", x.roll(0, 2, 3, 2), 1);
        due("14 by 3, it ends behind the third", x.roll(0, 3, 3, 2), 0);
        due("14 by 3, ended once", x.roll(0, 9, 3, 1), 1);
        due("14 by 3, ended twice", x.roll(0, 13, 3, 1), 2);
        due("14 by 9, not alive together", x.roll(0, 30, 9, 4), 1);
        due("14 by 11, alive together", x.roll(0, 30, 11, 4), 2);
        due("14 by 10, none together", x.roll(0, 30, 10, 4), 1);
    }

    // "DRIFT of k (1 .. 2000): .. and to AT at 0 and half of PARTS, cut (what 1; told from 0 on)."
    private static void term3Drift() {
        EclipseWheel x = node(0, 21, 1, 0);
        due("15 k 0", x.drift(0, 0), Check.BAD);
        due("15 k 1", x.drift(1, 0), 1);
        due("15 k 2000", x.drift(2000, 0), 5);
        due("15 k 2001", x.drift(2001, 0), Check.BAD);
        due("15 back across the round", x.drift(20, 0), 1);
        due("15 a round", x.drift(21, 0), 0);
        due("15 the half, cut", x.drift(10, 1), 0);
        due("15 behind the half", x.drift(11, 1), 1);
        for (int start = 0; start < 21; start++) {
            EclipseWheel y = node(0, 21, 1, start);
            due("15 the half from " + start, y.drift(10, 1), 0);
            due("15 the half from " + start + ", a month ahead", y.drift(9, 1), 1);
            due("15 the half from " + start + ", a round behind", y.drift(21, 1), 10);
        }
        due("15 what 2", x.drift(1, 2), Check.BAD);
        due("15 what -1", x.drift(1, -1), Check.BAD);
    }

    // "those k, from 1 on, whose DRIFT is less than that of all lesser ones (1 is one)"
    private static void term3Records() {
        EclipseWheel x = node(0, 10, 5, 0);
        due("16 1 is one", x.records(1, 0), 1);
        due("17 1 is the first", x.record(0, 0), 1);
        due("17 2 is less", x.record(1, 0), 2);
        due("16 as great is none", x.records(2000, 0), 2);
        due("17 as great is none", x.record(2, 0), Check.NONE);
        EclipseWheel still = node(0, 10, 0, 3);
        due("17 1 is one that stands still", still.record(0, 0), 1);
        due("16 none but 1", still.records(2000, 1), 1);
        EclipseWheel slow = node(0, 4000, 1, 0);
        due("16 to 1999", slow.records(1999, 1), 1999);
        due("16 to 2000", slow.records(2000, 1), 2000);
        due("17 the one at 2000", slow.record(1999, 1), 2000);
        due("17 beyond the one at 2000", slow.record(2000, 1), Check.NONE);
        EclipseWheel late = node(0, 4002, 1, 0);
        due("17 no record beyond 2000", late.record(2000, 1), Check.NONE);
        due("15 where there would be one", late.drift(2000, 1), 1);
    }

    // "as long as y is above 0: TERM is x over y, cut; x becomes y, y what was left"
    private static void term3Terms() {
        EclipseWheel x = node(0, 2, 0, 0);
        due("18 step 0", x.terms(0), 1);
        due("19 step 0", x.term(0, 0), 0);
        due("19 step 0, none behind it", x.term(0, 1), Check.NONE);
        x.turn(0, 99999, 0);
        due("18 step above parts", x.terms(0), 2);
        due("19 step above parts", x.term(0, 0), 49999);
        due("19 nothing is left", x.term(0, 1), 2);
        due("19 none behind", x.term(0, 2), Check.NONE);
        due("19 none ahead", x.term(0, -1), Check.NONE);
        x.turn(0, 2, 0);
        due("18 step as great as parts", x.terms(0), 1);
        due("19 step as great as parts", x.term(0, 0), 1);
        x.turn(0, 1, 0);
        due("19 step below parts", x.term(0, 0), 0);
    }

    // "CONVERGENTS: that numbered i is what TERMS 0 .. i make ..; in lowest terms, above and below the line"
    private static void term3Convergents() {
        EclipseWheel x = node(0, 100, 0, 0);
        due("20 0 above", x.convergent(0, 0, 0), 0);
        due("20 0 below", x.convergent(0, 0, 1), 1);
        due("20 no second", x.convergent(0, 1, 0), Check.NO);
        x.turn(0, 50, 0);
        due("20 lowest above", x.convergent(0, 1, 0), 1);
        due("20 lowest below", x.convergent(0, 1, 1), 2);
        due("20 part 2", x.convergent(0, 1, 2), Check.NO);
        due("20 part -1", x.convergent(0, 1, -1), Check.NO);
        due("20 i -1", x.convergent(0, -1, 0), Check.NO);
        due("20 wheel 1", x.convergent(1, 0, 0), Check.NO);
        x.turn(0, 250, 0);
        due("20 above 1, first", x.convergent(0, 0, 0), 2);
        due("20 above 1, lowest above", x.convergent(0, 1, 0), 5);
        due("20 above 1, lowest below", x.convergent(0, 1, 1), 2);
    }

    // "MONTH 0 begins at DAY 0. DAY of m: P times m over Q, cut down; REST: P times m less Q times DAY."
    private static void term4Days() {
        EclipseWheel x = new EclipseWheel();
        x.rule(3, 7);
        x.rule(4, 3);
        int[] months = {-4, -3, -2, -1, 0, 1, 2, 3, 4};
        int[] days = {-10, -7, -5, -3, 0, 2, 4, 7, 9};
        int[] rests = {2, 0, 1, 2, 0, 1, 2, 0, 1};
        for (int i = 0; i < months.length; i++) {
            due("22 day of " + months[i], x.date(months[i], 0), days[i]);
            due("22 rest of " + months[i], x.date(months[i], 1), rests[i]);
            due("22 year of " + months[i], x.date(months[i], 2), months[i] < 0 ? Check.NO : 0);
            due("22 day in it of " + months[i], x.date(months[i], 3), months[i] < 0 ? Check.NO : days[i]);
        }
        int[] from = {0, 1, 2, 3, 4, 5, 7, 8, 9};
        int[] first = {0, 1, 1, 2, 2, 3, 3, 4, 4};
        for (int i = 0; i < from.length; i++) {
            due("23 the first month at " + from[i] + " or behind it", x.month(from[i]), first[i]);
        }
        due("23 day 1000000", x.month(1000000), Check.NOT);
        due("23 day 1000001", x.month(1000001), Check.BAD);
        due("23 day -1", x.month(-1), Check.BAD);
        due("23 the last month", x.month(233333), 100000);
        due("23 above the last month", x.month(233334), Check.NOT);
    }

    // "YEAR y (from 0 on) has 365 DAYS, 366, if y modulo LEAP is 0 (LEAP 1 .. 400; 4 at first); YEAR 0 begins at DAY 0."
    private static void term4Years() {
        for (int leap : new int[] {1, 2, 3, 4, 399, 400}) {
            EclipseWheel x = new EclipseWheel();
            x.rule(4, 1);
            x.rule(5, leap);
            // month 1 begins at the last day of each year, then at the first one of the next
            int day = -1;
            for (int year = 0; year < 10; year++) {
                int many = year % leap == 0 ? 366 : 365;
                day += many;
                x.rule(3, day);
                due("22 leap " + leap + ": last day of " + year, x.date(1, 3), many - 1);
                due("22 leap " + leap + ": last day's year " + year, x.date(1, 2), year);
                x.rule(3, day + 1);
                due("22 leap " + leap + ": first day behind " + year, x.date(1, 3), 0);
                due("22 leap " + leap + ": first day's year behind " + year, x.date(1, 2), year + 1);
            }
        }
        EclipseWheel far = new EclipseWheel();
        far.rule(4, 1);
        far.rule(5, 400);
        far.rule(3, 73000);
        due("22 the last year of 400", far.date(2, 2), 399);
        due("22 the last day of 400 years", far.date(2, 3), 364);
        far.rule(3, 36501);
        due("22 a year behind 100", far.date(4, 2), 400);
        due("22 years behind 400", far.date(4, 3), 3);
    }

    // "360.0 * AT / PARTS (doubles, in this order)"; "(float) (OUTER less FAR) / (float) (OUTER plus 1); 0.0f, if there is no
    // ECLIPSE. GRADE: (int) (SIZE * 1000.0f)."
    private static void term4AngleAndSize() {
        int differ = 0;
        for (int at = 0; at < 400; at++) {
            double angle = 360.0 * at / 99991;
            EclipseWheel x = node(0, 99991, 0, at);
            due("24 angle of " + at, x.angle(0, 0), Double.doubleToLongBits(angle));
            differ += angle == 360.0 * (at / 99991.0) ? 0 : 1;
        }
        due("24 another order would tell others", differ > 0 ? 1 : 0, 1);
        for (int outer = 0; outer < 200; outer++) {
            EclipseWheel x = node(0, 100000, 0, outer / 3);
            x.rule(0, outer);
            float size = (float) (outer - outer / 3) / (float) (outer + 1);
            due("25 size by " + outer, x.size(0, 0), Float.floatToIntBits(size));
            due("25 grade by " + outer, x.size(0, 1), (int) (size * 1000.0f));
            x.turn(0, 0, outer);
            due("25 at outer " + outer, x.size(0, 0), 0);
            x.turn(0, 0, outer + 1);
            due("25 above outer " + outer, x.size(0, 0), 0);
            due("25 above outer, grade " + outer, x.size(0, 1), 0);
        }
        EclipseWheel nine = node(0, 100, 0, 0);
        nine.rule(0, 9);
        due("25 the grade is of floats: doubles would tell 899", nine.size(0, 1), 900);
        EclipseWheel x = Check.small();
        due("26 at outer is as great as none", x.most(2, 3, 5, 0, 0), 100003);
        due("26 none is as great as at outer", x.most(2, 5, 3, 0, 0), 100005);
    }

    // "STATEMENTS with ; between, one at least"; "+ START or nothing (0)"; "NUMBERS: 1 to 6 digits. No blanks."
    private static void term5Form() {
        EclipseWheel x = new EclipseWheel();
        due("34 none at all", Check.read(x, ""), -100);
        due("34 ; alone", Check.read(x, ";"), -100);
        due("34 one", Check.read(x, "o1"), 1);
        due("34 ; behind", Check.read(x, "o1;"), -103);
        due("34 ;; between", Check.read(x, "o1;;o1"), -103);
        due("34 two", Check.read(x, "o1;o2"), 2);
        due("34 nothing between", Check.read(x, "o1o2"), -102);
        due("34 1 digit", Check.read(x, "o7"), 1);
        due("34 6 digits", Check.read(x, "o000008"), 1);
        due("44 6 digits", x.count(5), 8);
        due("34 7 digits", Check.read(x, "o0000009"), -107);
        due("34 no digit", Check.read(x, "o;o1"), -101);
        due("34 a blank ahead", Check.read(x, " o1"), -100);
        due("34 a blank inside", Check.read(x, "o 1"), -101);
        due("34 a blank behind", Check.read(x, "o1 "), -102);
        due("34 a blank behind ;", Check.read(x, "o1; o2"), -103);
        due("34 6 digits each", Check.read(x, "w000001/000009+000008"), 1);
        due("3 6 digits each", x.of(0, 3), 8);
        due("34 no start", Check.read(x, "w000001/000009"), 1);
        due("3 no start", x.of(1, 3), 0);
        due("34 7 digits of step", Check.read(x, "w0000001/9"), -107);
        due("34 7 digits of parts", Check.read(x, "w1/0000009"), -109);
        due("34 7 digits of start", Check.read(x, "w1/9+0000008"), -111);
        due("34 + behind start", Check.read(x, "w1/9+8+"), -106);
        due("34 the slash left out", Check.read(x, "w1"), -102);
        for (int letter = 0; letter < 128; letter++) {
            EclipseWheel y = node(0, 5, 1, 0);
            String text = (char) letter + "0";
            int want = "naoi".indexOf(letter) >= 0 ? 1 : "wblhg".indexOf(letter) >= 0 ? -102 : -100;
            due("34 the letter " + letter, Check.read(y, text), want);
            text = "o0" + (char) letter;
            due("34 behind a digit " + letter, Check.read(y, text),
                letter >= '0' && letter <= '9' ? 1 : letter == ';' ? -103 : -102);
        }
    }

    // "(THE TAPE's size, if it ends too early)"; "THE TAPE (80 bytes at most)"
    private static void term5TooEarly() {
        String text = "o1;w12/34+5;a0";
        int[] ends = {3, 4, 5, 6, 7, 10, 12, 13};
        for (int end : ends) {
            EclipseWheel x = new EclipseWheel();
            due("34 ends too early at " + end, Check.read(x, text.substring(0, end)), -100 - end);
            due("44 nothing done, ended at " + end, x.count(0), 0);
            due("44 nothing done to outer, ended at " + end, x.count(5), 15);
        }
        for (int end : new int[] {2, 8, 9, 11, 14}) {
            int want = end == 2 ? 1 : end == 14 ? 3 : 2;
            due("34 ends well at " + end, Check.read(new EclipseWheel(), text.substring(0, end)), want);
        }
        EclipseWheel x = new EclipseWheel();
        StringBuilder full = new StringBuilder();
        for (int i = 0; i < 26; i++) {
            full.append("i3;");
        }
        due("34 26 and ; make 78", full.length(), 78);
        due("34 80 bytes", Check.read(x, full + "o2"), 27);
        due("44 the 27th is done", x.count(5), 2);
        due("34 81 bytes: the last one doesn't come", Check.read(x, full + "o34"), 27);
        due("44 without the last one", x.count(5), 3);
        due("34 80 bytes end too early", Check.read(x, full.substring(0, 75) + "o2;i;"), -179);
        due("34 80 bytes end too early, all of them", Check.read(x, full.substring(0, 75) + "o23;i"), -180);
    }

    // "the letter of the first STATEMENT that can't be done by what those ahead of it would have done (a number out of its
    // bounds, no such WHEEL, no room). Nothing is done then."
    private static void term5CannotBeDone() {
        String[] texts = {
            "n0", "a0", "w1/9;n1", "w1/9;a1", "n0;w1/9", "w1/9;n0;a0", "w1/9;n0;n1", "o99999", "o100000", "i99999",
            "i100000", "o0;i0", "w99999/2", "w100000/2", "w0/1", "w0/2", "w0/100000", "w0/100001", "w0/9+8", "w0/9+9",
            "w0/9+9;o999999", "o1;b1/1;n7", "o1;i2;h0/0",
            "n7", "a7", "w1/9;n999999", "w1/9;a999999", "o999999", "i999999", "w999999/9", "w1/999999", "w1/9+999999",
            "w1/9;w1/9;w1/9;w1/9;w1/9;w1/9", "w1/9;w1/9;w1/9;w1/9;w1/9;w1/9;w1/9", "w1/9;w1/9;w1/9;w1/9;w1/9;w1/9;n5",
            "w1/9;w1/9;w1/9;w1/9;w1/9;w1/9;n6",
        };
        int[] want = {
            -300, -300, -305, -305, -300, 3, -308, 1, -300, 1,
            -300, 2, 1, -300, -300, 1, 1, -300, 1, -300,
            -300, -303, -306,
            -300, -300, -305, -305, -300, -300, -300, -300, -300,
            6, -330, 7,
            -330,
        };
        due("34 as many answers", want.length, texts.length);
        for (int i = 0; i < texts.length; i++) {
            EclipseWheel x = new EclipseWheel();
            due("34 read " + texts[i], Check.read(x, texts[i]), want[i]);
            due("34 the tape is empty behind " + texts[i], x.count(1), 0);
            due("44 texts done behind " + texts[i], x.count(2), want[i] > 0 ? 1 : 0);
            if (want[i] < 0) {
                due("34 no wheel comes by " + texts[i], x.count(0), 0);
                due("34 node stays by " + texts[i], x.count(3), 0);
                due("34 apse stays by " + texts[i], x.count(4), -1);
                due("34 outer stays by " + texts[i], x.count(5), 15);
                due("34 inner stays by " + texts[i], x.count(6), 9);
            }
        }
    }

    // "missing (at first), or n places (0 .. 12) made for WHEELS of one KIND, or of a KIND under that, each empty"
    private static void term5Trays() {
        EclipseWheel x = new EclipseWheel();
        for (int kind = 0; kind < 5; kind++) {
            x.wheel(kind, 9, kind, 0);
        }
        for (int tray = 0; tray < 4; tray++) {
            due("37 missing at first " + tray, x.laid(tray, 0, 0), Check.MISSING);
            due("36 missing at first " + tray, x.lay(tray, 0, 0), Check.MISSING);
            due("38 missing at first " + tray, x.like(0, tray), Check.MISSING);
            due("35 0 places " + tray, x.tray(tray, 0, 0), 1);
            due("37 0 places " + tray, x.laid(tray, 0, 0), Check.OUTSIDE);
            due("35 12 places " + tray, x.tray(tray, 0, 12), 1);
            due("37 12 places " + tray, x.laid(tray, 11, 0), Check.NOT);
            due("37 no 13th " + tray, x.laid(tray, 12, 0), Check.OUTSIDE);
            due("35 13 places " + tray, x.tray(tray, 0, 13), Check.BAD);
            due("35 -1 places " + tray, x.tray(tray, 0, -1), Check.SIZE);
            due("37 12 places stay " + tray, x.laid(tray, 11, 0), Check.NOT);
        }
        due("35 no tray 4", x.tray(4, 0, 0), Check.NONE);
        due("35 no tray -1", x.tray(-1, 0, 0), Check.NONE);
        x.lay(0, 0, 3);
        x.lay(0, 11, 4);
        x.turn(3, 33, 3);
        due("37 the thing itself", x.laid(0, 0, 2), 33);
        x.drop();
        due("37 none of the list any more", x.laid(0, 11, 0), 4);
        due("36 can't be laid any more", x.lay(0, 1, 4), Check.NONE);
        x.image();
        x.turn(3, 44, 4);
        due("37 still the thing itself behind image", x.laid(0, 0, 2), 44);
        x.undo();
        due("37 stays as it is by undo", x.laid(0, 0, 2), 44);
        x.turn(3, 55, 5);
        due("37 none of the list behind undo", x.laid(0, 0, 2), 44);
        due("37 what was none of the list stays, too", x.laid(0, 11, 2), 4);
        due("38 a tray of its own", x.like(1, 0), 12);
        x.tray(0, -1, 0);
        due("37 a tray of its own stays", x.laid(1, 0, 2), 44);
    }

    // "LISTS 0 .. 2: missing (at first), or n longs (0 .. 40)."
    private static void term5Lists() {
        EclipseWheel x = Check.small();
        for (int list = 0; list < 3; list++) {
            due("41 missing at first " + list, x.get(list, 0), Check.NO);
            due("40 missing at first " + list, x.put(list, 0, 1), Check.MISSING);
            due("42 missing at first " + list, x.fill(list, 0), Check.MISSING);
            due("43 missing at first " + list, x.judge(list, 0), Check.MISSING);
            due("39 0 longs " + list, x.list(list, 0), 1);
            due("40 no first " + list, x.put(list, 0, 1), Check.OUTSIDE);
            due("39 40 longs " + list, x.list(list, 40), 1);
            due("40 the 40th " + list, x.put(list, 39, Long.MAX_VALUE), 1);
            due("40 no 41st " + list, x.put(list, 40, 1), Check.OUTSIDE);
            due("39 41 longs " + list, x.list(list, 41), Check.BAD);
            due("39 -2 longs " + list, x.list(list, -2), Check.SIZE);
            due("41 the 40th stays " + list, x.get(list, 39), Long.MAX_VALUE);
            due("39 missing " + list, x.list(list, -1), 1);
            due("41 missing " + list, x.get(list, 39), Check.NO);
            due("39 missing once more " + list, x.list(list, -1), 1);
        }
        due("39 no list 3", x.list(3, 0), Check.NONE);
        due("39 no list -1", x.list(-1, 0), Check.NONE);
    }

    // "AN IMAGE keeps WHEELS, NODE, APSE, LIMITS, P, Q, LEAP (TRAYS, LISTS, THE TAPE, how many TEXTS were done stay by undo())."
    private static void term5Image() {
        EclipseWheel x = new EclipseWheel();
        due("46 none yet", x.undo(), Check.STATE);
        due("45 of no wheels", x.image(), 0);
        due("46 to no wheels", x.undo(), 0);
        x.wheel(0, 9, 1, 0);
        x.tray(0, 0, 1);
        x.list(0, 1);
        due("45 of one", x.image(), 1);
        x.tray(0, -1, 0);
        x.tray(1, 0, 1);
        x.lay(1, 0, 0);
        x.list(0, -1);
        x.list(1, 1);
        x.put(1, 0, 6);
        Check.read(x, "o1;w1/9");
        x.feed('o');
        x.feed('2');
        due("46 to one", x.undo(), 1);
        due("37 a tray made missing stays missing", x.laid(0, 0, 0), Check.MISSING);
        due("37 a tray made stays", x.laid(1, 0, 1), 9);
        due("41 a list made missing stays missing", x.get(0, 0), Check.NO);
        due("41 a list made stays", x.get(1, 0), 6);
        due("44 texts done stay", x.count(2), 1);
        due("44 the tape stays", x.count(1), 2);
        due("34 the tape's bytes stay", x.read(), 1);
        due("44 the tape's text is done", x.count(5), 2);
        due("46 undo once more", x.undo(), 1);
        due("44 outer once more", x.count(5), 15);
    }

    // "PERIOD of a WHEEL that is no GEARED one: the least k (1 or more)"
    private static void term6Period() {
        for (int parts = 2; parts <= 12; parts++) {
            for (int step = 0; step <= 25; step++) {
                EclipseWheel x = new EclipseWheel();
                for (int kind = 0; kind < 4; kind++) {
                    x.wheel(kind, parts, step, 1);
                    due("27 kind " + kind + ", " + step + " over " + parts, x.period(kind), leastPeriod(x, kind, 2 * parts));
                }
                x.wheel(4, parts, step, 1);
                due("27 a geared one", x.period(4), Check.NO);
            }
        }
    }

    /** Tried one by one on the places of twice as many months as the greatest period has. */
    private static int leastPeriod(EclipseWheel x, int wheel, int most) {
        int[] places = new int[2 * most];
        for (int m = 0; m < places.length; m++) {
            places[m] = x.at(wheel, m);
        }
        for (int k = 1; k < most; k++) {
            boolean same = true;
            for (int m = 0; m + k < places.length && same; m++) {
                same = places[m] == places[m + k];
            }
            if (same) {
                return k;
            }
        }
        return most;
    }

    // "ALL ROUND of WHEELS (bits): the least number that all their PERIODS divide (of none: 1)."
    private static void term6AllRound() {
        EclipseWheel x = new EclipseWheel();
        due("28 of none, without wheels", x.allRound(0), 1);
        for (int bit = 0; bit < 32; bit++) {
            due("28 no wheel " + bit, x.allRound(1 << bit), Check.NO);
        }
        int[] parts = {2, 3, 4, 5, 9, 6};
        for (int i = 0; i < 6; i++) {
            x.wheel(0, parts[i], 1, 0);
        }
        for (int set = 0; set < 64; set++) {
            int least = 1;
            for (int i = 0; i < 6; i++) {
                if ((set >> i & 1) == 1 && least % parts[i] != 0) {
                    // from the start: another number that those ahead divide, too
                    least++;
                    i = -1;
                }
            }
            due("28 of the bits " + set, x.allRound(set), least);
        }
        for (int bit = 6; bit < 32; bit++) {
            due("28 bit " + bit, x.allRound(1 | 1 << bit), Check.NO);
        }
        x.drop();
        due("28 the dropped one", x.allRound(32), Check.NO);
    }

    // "the first MONTH, from 0 on, at which AT of the first is the first place, AT of the second the second one"
    private static void term6Meeting() {
        EclipseWheel x = node(0, 100000, 1, 0);
        x.wheel(1, 100000, 1, 0);
        x.wheel(2, 100000, 1, 0);
        x.wheel(0, 2, 1, 0);
        due("29 at 0", x.meeting(0, 0, 1, 0), 0);
        due("29 from 0 on, not ahead of it", x.meeting(0, 99999, 1, 1), 99999);
        due("29 at the last month", x.meeting(0, 0, 2, 50000), 100000);
        due("29 beyond the last month", x.meeting(0, 1, 2, 50000), Check.NOT);
        due("29 halfway", x.meeting(0, 50000, 1, 50000), 50000);
        due("29 never", x.meeting(0, 1, 3, 0), Check.NOT);
        due("29 itself, the same place", x.meeting(0, 99999, 0, 99999), 99999);
        due("29 itself, two places", x.meeting(0, 1, 0, 2), Check.NOT);
        due("29 the last place", x.meeting(3, 1, 0, 99999), 99999);
        due("29 no place of a", x.meeting(3, 2, 0, 0), Check.BAD);
        due("29 no place of b", x.meeting(0, 0, 3, 2), Check.BAD);
        due("29 a place of a's, not of b's", x.meeting(0, 2, 3, 2), Check.BAD);
        due("29 no place of a, no b", x.meeting(3, 2, 4, 0), Check.NONE);
    }

    // "as far as they are MONTHS, 4000 MONTHS at most"; "the first 12 of these (as many as there are)"; "- ahead, if it is
    // below 0; no 0 ahead"
    private static void term6Paper() {
        for (int many = 10; many <= 14; many++) {
            // an eclipse each so many months that there are as many in 4000
            int months = 3999 / (many - 1);
            EclipseWheel x = Check.each(months);
            StringBuilder want = new StringBuilder();
            for (int i = 0; i < Math.min(12, many); i++) {
                want.append(i == 0 ? "" : ";").append(i * months).append('w').append(i % 2);
            }
            due("30 " + many + " in 4000 months", x.spell(0), want.length());
            for (int i = 0; i < want.length(); i++) {
                due("31 " + many + " in 4000 months, byte " + i, x.paper(0, i), want.charAt(i));
            }
            due("31 behind the last of " + many, x.paper(0, want.length()), Check.NONE);
        }
        EclipseWheel x = Check.each(1000);
        int[] letters = {7, 6, 5, 5, 1};
        int[] rows = {-100000, -99000, -9000, -1000, 0};
        for (int i = 0; i < rows.length; i++) {
            due("31 - ahead of " + rows[i], x.paper(rows[i], 0), rows[i] < 0 ? '-' : '0');
            due("31 the digit behind it", x.paper(rows[i], 1), rows[i] < 0 ? Integer.toString(-rows[i]).charAt(0) : 'w');
            due("31 the letter of " + rows[i], x.paper(rows[i], letters[i]), 'w');
        }
        due("30 4000 months, the last one of them", x.spell(-1001), "-1000w1;0w0;1000w1;2000w0".length());
        due("30 4000 months from -1000 on", x.spell(-1000), "-1000w1;0w0;1000w1;2000w0".length());
        due("30 4000 months from -999 on", x.spell(-999), "0w0;1000w1;2000w0;3000w1".length());
        due("30 as far as they are months", x.spell(99001), "100000w0".length());
        due("30 none", Check.dark().spell(0), 0);
        due("31 none", Check.dark().paper(0, 0), Check.NONE);
    }

    // "GAPS: by how many MONTHS each of the first n and 1 of them is behind the one ahead. COMMON GAP: .. of several the least."
    private static void term6Gaps() {
        EclipseWheel x = Check.each(1000);
        due("32 three gaps", x.gap(0, 3, 1), 3);
        due("32 no fourth in 4000 months", x.gap(0, 4, 1), Check.NOT);
        due("32 to the last month", x.gap(97000, 3, 1), 3);
        due("32 no third to the last month", x.gap(97001, 3, 1), Check.NOT);
        due("32 n 1", x.gap(0, 1, 0), 1000);
        due("32 n 0", x.gap(0, 0, 0), Check.BAD);
        due("32 n 60", Check.each(60).gap(0, 60, 1), 60);
        due("32 n 61", Check.each(60).gap(0, 61, 1), Check.BAD);
        EclipseWheel odd = node(0, 9, 1, 0);
        odd.rule(0, 0);
        // 0, 4, 9, 13, 18, ..: gaps 4, 5, 4, 5
        int[] common = {4, 4, 4, 4};
        int[] often = {1, 1, 2, 2};
        int[] greatest = {4, 5, 5, 5};
        int[] commonFrom1 = {5, 4, 5, 4};
        for (int n = 1; n <= 4; n++) {
            due("32 common of " + n, odd.gap(0, n, 0), common[n - 1]);
            due("32 often of " + n, odd.gap(0, n, 1), often[n - 1]);
            due("32 greatest of " + n, odd.gap(0, n, 2), greatest[n - 1]);
            due("32 common of " + n + " from 1 on", odd.gap(1, n, 0), commonFrom1[n - 1]);
            due("32 greatest of " + n + " from 1 on", odd.gap(1, n, 2), 5);
        }
    }
}
