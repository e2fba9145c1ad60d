/** Promises 8 to 14: what is bound and ruled, eclipses, the next one, families, rolls. */
public final class EclipseTest {
    private static final Check check = new Check("EclipseTest");

    private static void due(String call, long got, long want) {
        check.due(call, got, want);
    }

    public static void main(String[] args) {
        promise8Bind();
        promise9Rule();
        promise10Eclipse();
        promise10Apse();
        promise10Limits();
        promise11Eclipses();
        promise12Next();
        promise13Family();
        promise14Roll();
        promise14Edges();
        check.end();
    }

    private static void promise8Bind() {
        EclipseWheel x = new EclipseWheel();
        due("8 no wheels", x.bind(0, -1), Check.NONE);
        x.wheel(0, 20, 1, 0);
        x.wheel(0, 20, 1, 10);
        x.wheel(0, 20, 1, 5);
        due("8 bind", x.bind(2, 1), 1);
        due("8 node", x.count(3), 2);
        due("8 apse", x.count(4), 1);
        due("8 node goes into eclipses", x.eclipse(0, 1), 5);
        due("8 apse none", x.bind(1, -1), 1);
        due("8 apse is none", x.count(4), -1);
        due("8 the same one", x.bind(1, 1), 1);
        due("8 no node 3", x.bind(3, 0), Check.NONE);
        due("8 no node -1", x.bind(-1, 0), Check.NONE);
        due("8 no apse 3", x.bind(0, 3), Check.NONE);
        due("8 no apse -2", x.bind(0, -2), Check.NONE);
        due("8 no change of node", x.count(3), 1);
        due("8 no change of apse", x.count(4), 1);
    }

    private static void promise9Rule() {
        EclipseWheel x = new EclipseWheel();
        int[] at = {15, 9, 20, 59, 2, 4};
        int[] least = {0, 0, 0, 1, 1, 1};
        int[] most = {99999, 99999, 99999, 100000, 1000, 400};
        for (int i = 0; i < 6; i++) {
            due("9 first " + i, x.rule(i, least[i]), at[i]);
            due("9 told " + i, x.count(5 + i), least[i]);
            due("9 then " + i, x.rule(i, most[i]), least[i]);
            due("9 told then " + i, x.count(5 + i), most[i]);
            due("9 too small " + i, x.rule(i, least[i] - 1), Check.BAD);
            due("9 too great " + i, x.rule(i, most[i] + 1), Check.BAD);
            due("9 far too great " + i, x.rule(i, Integer.MAX_VALUE), Check.BAD);
            due("9 far too small " + i, x.rule(i, Integer.MIN_VALUE), Check.BAD);
            due("9 unchanged " + i, x.count(5 + i), most[i]);
        }
        due("9 none 6", x.rule(6, 1), Check.NONE);
        due("9 none -1", x.rule(-1, 1), Check.NONE);
        due("9 none ahead of bad", x.rule(6, -1), Check.NONE);
        for (int i = 0; i < 6; i++) {
            due("9 each for itself " + i, x.count(5 + i), most[i]);
        }
    }

    private static void promise10Eclipse() {
        EclipseWheel x = Check.small();
        int[] eclipse = {2, 2, 1, 1, 0, 0, 0, 1, 1, 2, 2, 2, 1, 1, 0, 0, 0, 1, 1, 2};
        int[] far = {0, 1, 2, 3, 4, 5, 4, 3, 2, 1, 0, 1, 2, 3, 4, 5, 4, 3, 2, 1};
        int[] side = {0, 0, 0, 0, 0, 0, 1, 1, 1, 1, 1, 1, 1, 1, 1, 0, 0, 0, 0, 0};
        for (int m = 0; m < 20; m++) {
            for (int shift = -20; shift <= 20; shift += 20) {
                due("10 eclipse " + m, x.eclipse(m + shift, 0), eclipse[m]);
                due("10 far " + m, x.eclipse(m + shift, 1), far[m]);
                due("10 side " + m, x.eclipse(m + shift, 2), side[m]);
            }
        }
        due("10 last month", x.eclipse(100000, 0), 2);
        due("10 first month", x.eclipse(-100000, 0), 2);
        due("10 bad month", x.eclipse(100001, 0), Check.BAD);
        due("10 bad month below", x.eclipse(-100001, 0), Check.BAD);
        due("10 bad what", x.eclipse(0, 3), Check.BAD);
        due("10 bad what below", x.eclipse(0, -1), Check.BAD);
        x.drop();
        due("10 state", x.eclipse(0, 0), Check.STATE);
        due("10 state far", x.eclipse(0, 1), Check.STATE);
        due("10 state side", x.eclipse(0, 2), Check.STATE);
        due("10 bad ahead of state", x.eclipse(100001, 0), Check.BAD);
        due("10 bad what ahead of state", x.eclipse(0, 3), Check.BAD);
        EclipseWheel y = new EclipseWheel();
        y.wheel(0, 7, 1, 0);
        int[] farOf7 = {0, 1, 1, 0, 1, 2, 1};
        int[] sideOf7 = {0, 0, 1, 1, 1, 0, 0};
        for (int m = 0; m < 7; m++) {
            due("10 far of 7 at " + m, y.eclipse(m, 1), farOf7[m]);
            due("10 side of 7 at " + m, y.eclipse(m, 2), sideOf7[m]);
        }
    }

    private static void promise10Apse() {
        EclipseWheel x = Check.small();
        x.wheel(0, 8, 1, 0);
        x.bind(0, 1);
        x.rule(2, 2);
        // whole months of the node: 0, 1, 9, 10, 11, 19, 20, 21, 29; the apse stands 0, 1, 1, 2, 3, 3, 4, 3, 3 off
        int[] months = {0, 1, 9, 10, 11, 19, 20, 21, 29};
        int[] due = {2, 2, 2, 2, 3, 3, 3, 3, 3};
        for (int i = 0; i < months.length; i++) {
            due("10 by the apse " + months[i], x.eclipse(months[i], 0), due[i]);
        }
        due("10 partial by the apse", x.eclipse(12, 0), 1);
        due("10 none by the apse", x.eclipse(5, 0), 0);
        x.rule(2, 3);
        due("10 at the apse's limit", x.eclipse(11, 0), 2);
        due("10 above the apse's limit", x.eclipse(20, 0), 3);
        x.bind(0, -1);
        due("10 without an apse", x.eclipse(20, 0), 2);
        x.bind(1, 0);
        due("10 the other way round", x.eclipse(4, 0), 3);
        due("10 the other way round at 0", x.eclipse(0, 0), 2);
    }

    private static void promise10Limits() {
        EclipseWheel x = Check.small();
        x.rule(0, 0);
        due("10 inner above outer", x.eclipse(0, 0), 2);
        due("10 outer 0", x.eclipse(1, 0), 0);
        x.rule(0, 99999);
        x.rule(1, 99999);
        due("10 widest", x.eclipse(5, 0), 2);
        x.rule(1, 5);
        due("10 at inner", x.eclipse(5, 0), 2);
        x.rule(1, 4);
        due("10 above inner", x.eclipse(5, 0), 1);
        x.rule(0, 5);
        due("10 at outer", x.eclipse(5, 0), 1);
        x.rule(0, 4);
        due("10 above outer", x.eclipse(5, 0), 0);
    }

    private static void promise11Eclipses() {
        EclipseWheel x = Check.small();
        due("11 any", x.eclipses(0, 19, 0), 14);
        due("11 partial", x.eclipses(0, 19, 1), 8);
        due("11 whole", x.eclipses(0, 19, 2), 6);
        due("11 ringed", x.eclipses(0, 19, 3), 0);
        due("11 one month", x.eclipses(3, 3, 0), 1);
        due("11 one dark month", x.eclipses(4, 4, 0), 0);
        due("11 4000 months", x.eclipses(-2000, 1999, 0), 2800);
        due("11 at the end", x.eclipses(96001, 100000, 2), 1200);
        due("11 at the start", x.eclipses(-100000, -96001, 2), 1200);
        due("11 4001 months", x.eclipses(0, 4000, 0), Check.BAD);
        due("11 back", x.eclipses(5, 4, 0), Check.BAD);
        due("11 bad a", x.eclipses(-100001, -100000, 0), Check.BAD);
        due("11 bad b", x.eclipses(100000, 100001, 0), Check.BAD);
        due("11 far off", x.eclipses(Integer.MIN_VALUE, Integer.MAX_VALUE, 0), Check.BAD);
        due("11 no kind 4", x.eclipses(0, 5, 4), Check.NONE);
        due("11 no kind -1", x.eclipses(0, 5, -1), Check.NONE);
        due("11 bad ahead of none", x.eclipses(5, 4, 4), Check.BAD);
        x.wheel(0, 8, 1, 0);
        x.bind(0, 1);
        x.rule(2, 2);
        due("11 ringed with an apse", x.eclipses(0, 39, 3), 5);
        due("11 whole with an apse", x.eclipses(0, 39, 2), 7);
        due("11 any with an apse", x.eclipses(0, 39, 0), 28);
        EclipseWheel none = new EclipseWheel();
        due("11 without wheels", none.eclipses(0, 39, 0), 0);
        due("11 bad without wheels", none.eclipses(1, 0, 0), Check.BAD);
        due("11 no kind without wheels", none.eclipses(0, 0, 4), Check.NONE);
    }

    private static void promise12Next() {
        EclipseWheel x = Check.small();
        due("12 later", x.next(3, 0), 100007);
        due("12 later by one", x.next(0, 0), 100001);
        due("12 earlier", x.next(7, 1), 100003);
        due("12 earlier by one", x.next(0, 1), 99999);
        due("12 from a dark one", x.next(5, 1), 100003);
        due("12 at the end", x.next(100000, 0), Check.NOT);
        due("12 at the start", x.next(-100000, 1), Check.NOT);
        due("12 to the end", x.next(99999, 0), 200000);
        due("12 to the start", x.next(-99999, 1), 0);
        due("12 back from the end", x.next(100000, 1), 199999);
        due("12 on from the start", x.next(-100000, 0), 1);
        due("12 bad m", x.next(100001, 1), Check.BAD);
        due("12 bad m below", x.next(-100001, 0), Check.BAD);
        due("12 bad way", x.next(0, 2), Check.BAD);
        due("12 bad way below", x.next(0, -1), Check.BAD);
        EclipseWheel wide = Check.each(50000);
        due("12 4000 later", wide.next(46000, 0), 150000);
        due("12 4001 later", wide.next(45999, 0), Check.NOT);
        due("12 4000 earlier", wide.next(4000, 1), 100000);
        due("12 4001 earlier", wide.next(4001, 1), Check.NOT);
        due("12 not itself", wide.next(0, 0), Check.NOT);
        due("12 not itself earlier", wide.next(0, 1), Check.NOT);
        due("12 none at all", Check.dark().next(0, 0), Check.NOT);
        due("12 without wheels", new EclipseWheel().next(0, 1), Check.NOT);
        due("12 bad without wheels", new EclipseWheel().next(0, 2), Check.BAD);
    }

    private static void promise13Family() {
        EclipseWheel x = Check.small();
        due("13 by 1 first", x.family(0, 1, 0), 99997);
        due("13 by 1 last", x.family(0, 1, 1), 100003);
        due("13 by 1 many", x.family(0, 1, 2), 7);
        due("13 by 1 from its end", x.family(3, 1, 0), 99997);
        due("13 by 1 many from its end", x.family(3, 1, 2), 7);
        due("13 by 20 first, 500 each way", x.family(0, 20, 0), 90000);
        due("13 by 20 last, 500 each way", x.family(0, 20, 1), 110000);
        due("13 by 20 many", x.family(0, 20, 2), 1001);
        due("13 by 10: the other side", x.family(0, 10, 2), 1);
        due("13 by 10 first", x.family(10, 10, 0), 100010);
        due("13 by 10 last", x.family(10, 10, 1), 100010);
        due("13 by 21 last", x.family(0, 21, 1), 100063);
        due("13 by 19 last", x.family(0, 19, 1), 100057);
        due("13 by 2000 first", x.family(0, 2000, 0), 0);
        due("13 by 2000 last", x.family(0, 2000, 1), 200000);
        due("13 by 2000 many", x.family(0, 2000, 2), 101);
        due("13 to the end", x.family(99980, 20, 1), 200000);
        due("13 at the end", x.family(100000, 20, 2), 501);
        due("13 at the start", x.family(-100000, 20, 2), 501);
        due("13 at the start first", x.family(-100000, 1, 0), 0);
        due("13 not", x.family(5, 1, 0), Check.NOT);
        due("13 bad m", x.family(100001, 1, 0), Check.BAD);
        due("13 bad m below", x.family(-100001, 1, 0), Check.BAD);
        due("13 bad k", x.family(0, 0, 0), Check.BAD);
        due("13 bad k above", x.family(0, 2001, 0), Check.BAD);
        due("13 bad k below", x.family(0, -1, 0), Check.BAD);
        due("13 bad what", x.family(0, 1, 3), Check.BAD);
        due("13 bad what below", x.family(0, 1, -1), Check.BAD);
        due("13 bad ahead of not", x.family(5, 0, 0), Check.BAD);
        due("13 without wheels", new EclipseWheel().family(0, 1, 2), Check.NOT);
    }

    private static void dueRoll(String call, EclipseWheel x, int a, int b, int k, int... want) {
        for (int what = 0; what < 5; what++) {
            due("14 " + call + " what " + what, x.roll(a, b, k, what), want[what]);
        }
    }

    private static void promise14Roll() {
        EclipseWheel x = Check.small();
        dueRoll("by 1", x, 0, 19, 1, 3, 2, 1, 7, 1);
        dueRoll("by 1 to a dark month", x, 0, 14, 1, 2, 2, 0, 7, 1);
        dueRoll("by 1 to an eclipse", x, 0, 13, 1, 2, 1, 1, 7, 1);
        dueRoll("by 20", x, 0, 39, 20, 14, 0, 14, 2, 14);
        dueRoll("by 20 ten times", x, -100, 99, 20, 14, 0, 14, 10, 14);
        dueRoll("by 10: the other side", x, 0, 19, 10, 14, 7, 7, 1, 7);
        dueRoll("by 2000", x, 0, 199, 2000, 140, 0, 140, 1, 140);
        dueRoll("one month", x, 0, 0, 1, 1, 0, 1, 1, 1);
        dueRoll("one dark month", x, 5, 5, 1, 0, 0, 0, 0, 0);
        dueRoll("dark months", x, 4, 6, 3, 0, 0, 0, 0, 0);
        // 2, 3, 7 .. 13, 17 by 4: 11 goes on from 7, 12 from 8, 13 from 9; 7 and 17 have the other side behind them
        dueRoll("by 4", x, 2, 17, 4, 7, 6, 1, 2, 4);
        dueRoll("at the end", x, 99801, 100000, 20, 14, 0, 14, 10, 14);
        dueRoll("at the start", x, -100000, -99801, 20, 14, 0, 14, 10, 14);
        // an earlier roll leaves nothing behind
        dueRoll("by 1 again", x, 0, 19, 1, 3, 2, 1, 7, 1);
        dueRoll("without wheels", new EclipseWheel(), 0, 199, 1, 0, 0, 0, 0, 0);
    }

    private static void promise14Edges() {
        EclipseWheel x = Check.small();
        due("14 201 months", x.roll(0, 200, 5, 0), Check.BAD);
        due("14 back", x.roll(5, 4, 5, 0), Check.BAD);
        due("14 bad a", x.roll(-100001, -100000, 5, 0), Check.BAD);
        due("14 bad b", x.roll(100000, 100001, 5, 0), Check.BAD);
        due("14 bad k", x.roll(0, 10, 0, 0), Check.BAD);
        due("14 bad k above", x.roll(0, 10, 2001, 0), Check.BAD);
        due("14 bad what", x.roll(0, 10, 1, 5), Check.BAD);
        due("14 bad what below", x.roll(0, 10, 1, -1), Check.BAD);
        due("14 far off", x.roll(Integer.MIN_VALUE, Integer.MAX_VALUE, 1, 0), Check.BAD);
        due("14 bad without wheels", new EclipseWheel().roll(1, 0, 1, 0), Check.BAD);
    }
}
