/** Promises 27 to 32: periods, all round, meetings, papers, gaps. */
public final class RoundTest {
    private static final Check check = new Check("RoundTest");

    private static void due(String call, long got, long want) {
        check.due(call, got, want);
    }

    public static void main(String[] args) {
        promise27Period();
        promise28AllRound();
        promise29Meeting();
        promise30And31Paper();
        promise30And31Edges();
        promise32Gap();
        promise32Edges();
        check.end();
    }

    private static void duePeriod(int parts, int step, long plain, long lame, long hasty) {
        EclipseWheel x = new EclipseWheel();
        long[] want = {plain, plain, lame, hasty, Check.NO};
        for (int kind = 0; kind < 5; kind++) {
            x.wheel(kind, parts, step, 1);
            due("27 kind " + kind + ", " + step + " over " + parts, x.period(kind), want[kind]);
        }
    }

    private static void promise27Period() {
        duePeriod(10, 3, 10, 20, 5);
        duePeriod(10, 4, 5, 10, 5);
        duePeriod(10, 5, 2, 4, 1);
        duePeriod(10, 0, 1, 1, 1);
        duePeriod(10, 10, 1, 1, 1);
        duePeriod(10, 30, 1, 1, 1);
        duePeriod(10, 15, 2, 4, 1);
        duePeriod(9, 3, 3, 6, 3);
        duePeriod(2, 1, 2, 4, 1);
        duePeriod(100000, 99999, 100000, 200000, 50000);
        duePeriod(99991, 99999, 99991, 199982, 99991);
        EclipseWheel x = new EclipseWheel();
        due("27 none", x.period(0), Check.NO);
        x.wheel(4, 10, 3, 0);
        due("27 a geared one as wheel 0", x.period(0), Check.NO);
        due("27 none above", x.period(1), Check.NO);
        due("27 none below", x.period(-1), Check.NO);
    }

    private static void promise28AllRound() {
        EclipseWheel x = new EclipseWheel();
        due("28 of none without wheels", x.allRound(0), 1);
        due("28 no wheel", x.allRound(1), Check.NO);
        x.wheel(0, 12, 1, 0);
        x.wheel(1, 18, 1, 0);
        x.wheel(4, 7, 1, 0);
        x.wheel(2, 8, 1, 0);
        due("28 of none", x.allRound(0), 1);
        due("28 of one", x.allRound(1), 12);
        due("28 of the second", x.allRound(2), 18);
        due("28 of two", x.allRound(3), 36);
        due("28 with the lame one", x.allRound(11), 144);
        due("28 with the geared one", x.allRound(4), Check.NO);
        due("28 with the geared one, too", x.allRound(7), Check.NO);
        due("28 no wheel 4", x.allRound(17), Check.NO);
        due("28 far off", x.allRound(Integer.MIN_VALUE), Check.NO);
        due("28 all bits", x.allRound(-1), Check.NO);
        due("28 bit 30", x.allRound(1 << 30), Check.NO);
        EclipseWheel y = new EclipseWheel();
        int[] primes = {99991, 99989, 99971, 99961, 99929, 99923};
        for (int prime : primes) {
            y.wheel(0, prime, 1, 0);
        }
        due("28 of three", y.allRound(7), 99991L * 99989 * 99971);
        due("28 no long of four", y.allRound(15), Check.NO);
        due("28 no long of six", y.allRound(63), Check.NO);
        due("28 of others", y.allRound(56), 99961L * 99929 * 99923);
        // the last is as great as a long leaves room for
        EclipseWheel z = new EclipseWheel();
        for (int parts : new int[] {43711, 42893, 49197, 99994}) {
            z.wheel(0, parts, 1, 0);
        }
        due("28 just a long", z.allRound(15), 43711L * 42893 * 49197 * 99994);
        EclipseWheel beyond = new EclipseWheel();
        for (int parts : new int[] {50581, 48607, 37516, 99997}) {
            beyond.wheel(0, parts, 1, 0);
        }
        due("28 just no long", beyond.allRound(15), Check.NO);
        beyond.turn(3, 99997, 0);
        due("28 one stands still", beyond.allRound(15), 50581L * 48607 * 37516);
    }

    private static void promise29Meeting() {
        EclipseWheel x = new EclipseWheel();
        x.wheel(0, 10, 3, 4);
        x.wheel(1, 7, 1, 0);
        x.wheel(2, 5, 1, 0);
        x.wheel(4, 9, 1, 0);
        x.wheel(0, 2, 0, 1);
        due("29 at once", x.meeting(0, 4, 1, 0), 0);
        due("29 of itself", x.meeting(0, 7, 0, 7), 1);
        due("29 never of itself", x.meeting(0, 7, 0, 8), Check.NOT);
        // 4 + 3m is 0 modulo 10 at 2, 12, .., 7 less m is 3 modulo 7 at 4, 11, ..: 32
        due("29 of two", x.meeting(0, 0, 1, 3), 32);
        due("29 of two the other way", x.meeting(1, 3, 0, 0), 32);
        due("29 with the lame one", x.meeting(2, 4, 0, 8), 8);
        due("29 with the lame one's second month", x.meeting(2, 4, 0, 1), 9);
        // rounds of the lame one at m: m over 10, cut
        due("29 with the geared one", x.meeting(3, 8, 0, 4), 80);
        due("29 with one that stands", x.meeting(4, 0, 0, 4), Check.NOT);
        due("29 with one that stands there", x.meeting(4, 1, 0, 6), 4);
        due("29 no a", x.meeting(5, 0, 0, 0), Check.NONE);
        due("29 no b", x.meeting(0, 0, 5, 0), Check.NONE);
        due("29 no a below", x.meeting(-1, 0, 0, 0), Check.NONE);
        due("29 no b below", x.meeting(0, 0, -1, 0), Check.NONE);
        due("29 none ahead of bad", x.meeting(0, 10, 5, 0), Check.NONE);
        due("29 bad p", x.meeting(0, 10, 1, 0), Check.BAD);
        due("29 bad p below", x.meeting(0, -1, 1, 0), Check.BAD);
        due("29 bad q", x.meeting(0, 0, 1, 7), Check.BAD);
        due("29 bad q below", x.meeting(0, 0, 1, -1), Check.BAD);
        EclipseWheel y = new EclipseWheel();
        y.wheel(0, 100000, 1, 99999);
        y.wheel(0, 100000, 1, 0);
        y.wheel(2, 100000, 1, 0);
        due("29 to the last month", y.meeting(0, 99999, 2, 50000), 100000);
        due("29 beyond the last month", y.meeting(2, 50001, 2, 50001), Check.NOT);
        due("29 the last but one", y.meeting(1, 99999, 0, 99998), 99999);
    }

    private static void duePaper(EclipseWheel x, int m, String want) {
        for (int i = 0; i < want.length(); i++) {
            due("31 paper " + m + " at " + i, x.paper(m, i), want.charAt(i));
        }
        due("30 spell " + m, x.spell(m), want.length());
        due("31 behind the last of " + m, x.paper(m, want.length()), Check.NONE);
        due("31 before the first of " + m, x.paper(m, -1), Check.NONE);
        due("31 far off of " + m, x.paper(m, Integer.MAX_VALUE), Check.NONE);
    }

    private static void promise30And31Paper() {
        EclipseWheel x = Check.small();
        duePaper(x, 0, "0w0;1w0;2p0;3p0;7p1;8p1;9w1;10w1;11w1;12p1;13p1;17p0");
        duePaper(x, -13, "-13p1;-12p1;-11w1;-10w1;-9w1;-8p1;-7p1;-3p0;-2p0;-1w0;0w0;1w0");
        duePaper(x, 4, "7p1;8p1;9w1;10w1;11w1;12p1;13p1;17p0;18p0;19w0;20w0;21w0");
        duePaper(x, 99998, "99998p0;99999w0;100000w0");
        duePaper(x, 100000, "100000w0");
        due("30 spell of another month than the paper's", x.spell(0), 52);
        due("31 paper of another month than the spell's", x.paper(100000, 7), '0');
        due("30 spell once more", x.spell(0), 52);
        due("31 paper once more", x.paper(100000, 8), Check.NONE);
        duePaper(x, -100000, "-100000w0;-99999w0;-99998p0;-99997p0;-99993p1;-99992p1;-99991w1;-99990w1;"
            + "-99989w1;-99988p1;-99987p1;-99983p0");
        x.wheel(0, 8, 1, 0);
        x.bind(0, 1);
        x.rule(2, 2);
        duePaper(x, 9, "9w1;10w1;11r1;12p1;13p1;17p0;18p0;19r0;20r0;21r0;22p0;23p0");
    }

    private static void promise30And31Edges() {
        EclipseWheel wide = Check.each(1000);
        duePaper(wide, 0, "0w0;1000w1;2000w0;3000w1");
        duePaper(wide, 1, "1000w1;2000w0;3000w1;4000w0");
        duePaper(wide, -4000, "-4000w0;-3000w1;-2000w0;-1000w1");
        duePaper(wide, 98000, "98000w0;99000w1;100000w0");
        duePaper(Check.each(334), 0,
            "0w0;334w1;668w0;1002w1;1336w0;1670w1;2004w0;2338w1;2672w0;3006w1;3340w0;3674w1");
        duePaper(Check.dark(), 0, "");
        duePaper(new EclipseWheel(), 0, "");
        EclipseWheel all = Check.small();
        all.rule(0, 99999);
        all.rule(1, 0);
        duePaper(all, -100000, "-100000w0;-99999p0;-99998p0;-99997p0;-99996p0;-99995p0;-99994p1;-99993p1;"
            + "-99992p1;-99991p1;-99990w1;-99989p1");
        due("30 bad", wide.spell(100001), Check.BAD);
        due("30 bad below", wide.spell(-100001), Check.BAD);
        due("31 bad", wide.paper(100001, 0), Check.BAD);
        due("31 bad ahead of none", wide.paper(-100001, -1), Check.BAD);
    }

    private static void dueGap(EclipseWheel x, int m, int n, int common, int often, int greatest) {
        due("32 common " + m + " " + n, x.gap(m, n, 0), common);
        due("32 often " + m + " " + n, x.gap(m, n, 1), often);
        due("32 greatest " + m + " " + n, x.gap(m, n, 2), greatest);
    }

    private static void promise32Gap() {
        EclipseWheel x = Check.small();
        dueGap(x, 0, 1, 1, 1, 1);
        dueGap(x, 0, 4, 1, 3, 4);
        dueGap(x, 3, 1, 4, 1, 4);
        dueGap(x, 3, 2, 1, 1, 4);
        dueGap(x, 0, 14, 1, 12, 4);
        dueGap(x, 0, 60, 1, 51, 4);
        dueGap(x, 4, 5, 1, 5, 1);
        // what was found for more gaps, or farther on, goes into no others
        dueGap(x, 0, 60, 1, 51, 4);
        dueGap(x, 0, 4, 1, 3, 4);
        dueGap(x, 5000, 60, 1, 51, 4);
        dueGap(x, 0, 1, 1, 1, 1);
        x.rule(0, 1);
        // 0, 1, 9, 10, 11, 19, 20, 21, ..
        dueGap(x, 1, 4, 1, 2, 8);
        dueGap(x, 11, 1, 8, 1, 8);
        x.rule(0, 0);
        dueGap(x, 0, 3, 10, 3, 10);
        EclipseWheel odd = new EclipseWheel();
        odd.wheel(0, 7, 1, 0);
        odd.rule(0, 0);
        // 0, 3, 7, 10, 14, ..: gaps 3, 4, 3, 4
        dueGap(odd, 0, 1, 3, 1, 3);
        dueGap(odd, 0, 2, 3, 1, 4);
        dueGap(odd, 0, 3, 3, 2, 4);
        dueGap(odd, 1, 2, 3, 1, 4);
        dueGap(odd, 1, 3, 4, 2, 4);
        dueGap(odd, 1, 4, 3, 2, 4);
        dueGap(odd, 1, 60, 3, 30, 4);
    }

    private static void promise32Edges() {
        EclipseWheel wide = Check.each(1000);
        dueGap(wide, 0, 3, 1000, 3, 1000);
        dueGap(wide, 0, 4, Check.NOT, Check.NOT, Check.NOT);
        dueGap(wide, 1, 3, 1000, 3, 1000);
        dueGap(wide, 99000, 1, 1000, 1, 1000);
        dueGap(wide, 99000, 2, Check.NOT, Check.NOT, Check.NOT);
        dueGap(wide, 99001, 1, Check.NOT, Check.NOT, Check.NOT);
        EclipseWheel tight = Check.each(66);
        dueGap(tight, 0, 60, 66, 60, 66);
        dueGap(Check.each(67), 0, 59, 67, 59, 67);
        dueGap(Check.each(67), 0, 60, Check.NOT, Check.NOT, Check.NOT);
        dueGap(Check.dark(), 0, 1, Check.NOT, Check.NOT, Check.NOT);
        dueGap(new EclipseWheel(), 0, 1, Check.NOT, Check.NOT, Check.NOT);
        due("32 bad m", tight.gap(100001, 1, 0), Check.BAD);
        due("32 bad m below", tight.gap(-100001, 1, 0), Check.BAD);
        due("32 bad n", tight.gap(0, 0, 0), Check.BAD);
        due("32 bad n above", tight.gap(0, 61, 0), Check.BAD);
        due("32 bad what", tight.gap(0, 1, 3), Check.BAD);
        due("32 bad what below", tight.gap(0, 1, -1), Check.BAD);
        due("32 bad ahead of not", new EclipseWheel().gap(0, 61, 0), Check.BAD);
    }
}
