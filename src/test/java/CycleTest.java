/** Promises 15 to 21: drifts and their records, terms, convergents, nearest fractions. */
public final class CycleTest {
    private static final Check check = new Check("CycleTest");

    private static void due(String call, long got, long want) {
        check.due(call, got, want);
    }

    public static void main(String[] args) {
        promise15Drift();
        promise16Records();
        promise17Record();
        promise18And19Terms();
        promise20Convergent();
        promise21Nearest();
        check.end();
    }

    private static EclipseWheel node(int kind, int parts, int step, int start) {
        EclipseWheel x = new EclipseWheel();
        x.wheel(kind, parts, step, start);
        return x;
    }

    private static void promise15Drift() {
        EclipseWheel x = node(0, 20, 3, 5);
        due("15 1", x.drift(1, 0), 3);
        due("15 5", x.drift(5, 0), 5);
        due("15 7", x.drift(7, 0), 1);
        due("15 20", x.drift(20, 0), 0);
        due("15 2000", x.drift(2000, 0), 0);
        due("15 half 1", x.drift(1, 1), 7);
        due("15 half 10", x.drift(10, 1), 0);
        due("15 half 20", x.drift(20, 1), 10);
        EclipseWheel late = node(0, 20, 3, 15);
        due("15 half beyond the round 1", late.drift(1, 1), 7);
        due("15 half beyond the round 4", late.drift(4, 1), 2);
        due("15 half beyond the round 10", late.drift(10, 1), 0);
        due("15 half beyond the round 20", late.drift(20, 1), 10);
        EclipseWheel odd = node(0, 21, 1, 20);
        due("15 half cut", odd.drift(10, 1), 0);
        due("15 half cut by one", odd.drift(11, 1), 1);
        due("15 half cut back", odd.drift(1, 1), 9);
        due("15 half cut the other way", odd.drift(20, 1), 10);
        x.wheel(1, 10, 3, 2);
        x.bind(1, -1);
        due("15 of the node", x.drift(1, 0), 3);
        due("15 of the node by 2", x.drift(2, 0), 4);
        due("15 bad k", x.drift(0, 0), Check.BAD);
        due("15 bad k above", x.drift(2001, 0), Check.BAD);
        due("15 bad k below", x.drift(-5, 0), Check.BAD);
        due("15 bad what", x.drift(1, 2), Check.BAD);
        due("15 bad what below", x.drift(1, -1), Check.BAD);
        due("15 state", new EclipseWheel().drift(1, 0), Check.STATE);
        due("15 bad ahead of state", new EclipseWheel().drift(0, 0), Check.BAD);
        due("15 bad what ahead of state", new EclipseWheel().drift(1, 2), Check.BAD);
    }

    private static void promise16Records() {
        EclipseWheel x = node(0, 20, 3, 5);
        // drifts 3, 6, 9, 8, 5, 2, 1, .. 0 at 20; to the half 7, 4, 1, .. 0 at 10
        int[] most = {1, 5, 6, 7, 19, 20, 2000};
        int[] many = {1, 1, 2, 3, 3, 4, 4};
        for (int i = 0; i < most.length; i++) {
            due("16 to " + most[i], x.records(most[i], 0), many[i]);
        }
        int[] mostHalf = {1, 2, 3, 9, 10, 2000};
        int[] manyHalf = {1, 2, 3, 3, 4, 4};
        for (int i = 0; i < mostHalf.length; i++) {
            due("16 half to " + mostHalf[i], x.records(mostHalf[i], 1), manyHalf[i]);
        }
        due("16 2000 of them", node(0, 100000, 1, 0).records(2000, 1), 2000);
        due("16 standing still", node(0, 20, 0, 5).records(2000, 0), 1);
        due("16 bad most", x.records(0, 0), Check.BAD);
        due("16 bad most above", x.records(2001, 0), Check.BAD);
        due("16 bad what", x.records(1, 2), Check.BAD);
        due("16 bad what below", x.records(1, -1), Check.BAD);
        due("16 state", new EclipseWheel().records(1, 0), Check.STATE);
        due("16 bad ahead of state", new EclipseWheel().records(0, 0), Check.BAD);
    }

    private static void promise17Record() {
        EclipseWheel x = node(0, 20, 3, 5);
        int[] records = {1, 6, 7, 20, Check.NONE};
        int[] half = {1, 2, 3, 10, Check.NONE};
        for (int i = 0; i < 5; i++) {
            due("17 " + i, x.record(i, 0), records[i]);
            due("17 half " + i, x.record(i, 1), half[i]);
        }
        due("17 none -1", x.record(-1, 0), Check.NONE);
        due("17 none far off", x.record(Integer.MAX_VALUE, 0), Check.NONE);
        EclipseWheel wide = node(0, 100000, 1, 0);
        due("17 the 2000th", wide.record(1999, 1), 2000);
        due("17 none to 2000", wide.record(2000, 1), Check.NONE);
        due("17 bad what", x.record(0, 2), Check.BAD);
        due("17 bad what below", x.record(0, -1), Check.BAD);
        due("17 bad ahead of none", x.record(-1, 2), Check.BAD);
        due("17 state", new EclipseWheel().record(0, 0), Check.STATE);
        due("17 state ahead of none", new EclipseWheel().record(-1, 0), Check.STATE);
        due("17 bad ahead of state", new EclipseWheel().record(0, 2), Check.BAD);
    }

    private static void dueTerms(String call, int parts, int step, int... terms) {
        for (int kind = 0; kind < 5; kind++) {
            EclipseWheel x = node(kind, parts, step, 1);
            due("18 " + call, x.terms(0), terms.length);
            for (int i = 0; i < terms.length; i++) {
                due("19 " + call + " " + i, x.term(0, i), terms[i]);
            }
            due("19 " + call + " behind the last", x.term(0, terms.length), Check.NONE);
            due("19 " + call + " before the first", x.term(0, -1), Check.NONE);
        }
    }

    private static void promise18And19Terms() {
        dueTerms("355 over 113", 113, 355, 3, 7, 16);
        dueTerms("0 over 7", 7, 0, 0);
        dueTerms("14 over 7", 7, 14, 2);
        dueTerms("1 over 2", 2, 1, 0, 2);
        dueTerms("99999 over 100000", 100000, 99999, 0, 1, 99999);
        dueTerms("99999 over 2", 2, 99999, 49999, 2);
        dueTerms("46368 over 75025", 75025, 46368,
            0, 1, 1, 1, 1, 1, 1, 1, 1, 1, 1, 1, 1, 1, 1, 1, 1, 1, 1, 1, 1, 1, 1, 2);
        EclipseWheel x = node(0, 113, 355, 0);
        x.wheel(0, 7, 14, 0);
        due("18 of the second", x.terms(1), 1);
        due("19 of the second", x.term(1, 0), 2);
        due("18 none", x.terms(2), Check.NONE);
        due("18 none below", x.terms(-1), Check.NONE);
        due("19 none", x.term(2, 0), Check.NONE);
        due("19 none below", x.term(-1, 0), Check.NONE);
        due("19 far off", x.term(0, Integer.MAX_VALUE), Check.NONE);
        due("19 far below", x.term(0, Integer.MIN_VALUE), Check.NONE);
        x.turn(0, 1, 0);
        due("18 turned", x.terms(0), 2);
        due("19 turned", x.term(0, 1), 113);
    }

    private static void promise20Convergent() {
        EclipseWheel x = node(0, 113, 355, 0);
        x.wheel(3, 12, 8, 0);
        x.wheel(0, 100000, 99999, 0);
        x.wheel(0, 75025, 46368, 0);
        long[] above = {3, 22, 355, Check.NO};
        long[] below = {1, 7, 113, Check.NO};
        for (int i = 0; i < 4; i++) {
            due("20 above " + i, x.convergent(0, i, 0), above[i]);
            due("20 below " + i, x.convergent(0, i, 1), below[i]);
        }
        // 8 over 12: terms 0, 1, 2
        due("20 lowest terms above", x.convergent(1, 2, 0), 2);
        due("20 lowest terms below", x.convergent(1, 2, 1), 3);
        due("20 0 and 1 over 1", x.convergent(1, 1, 0), 1);
        due("20 0 and 1 over 1 below", x.convergent(1, 1, 1), 1);
        due("20 the wheel itself", x.convergent(2, 2, 0), 99999);
        due("20 the wheel itself below", x.convergent(2, 2, 1), 100000);
        due("20 many terms", x.convergent(3, 23, 0), 46368);
        due("20 many terms below", x.convergent(3, 23, 1), 75025);
        due("20 many terms, one less", x.convergent(3, 22, 0), 17711);
        due("20 many terms, one less below", x.convergent(3, 22, 1), 28657);
        due("20 no wheel", x.convergent(4, 0, 0), Check.NO);
        due("20 no wheel below", x.convergent(-1, 0, 0), Check.NO);
        due("20 no term below", x.convergent(0, -1, 0), Check.NO);
        due("20 no term far off", x.convergent(0, Integer.MAX_VALUE, 0), Check.NO);
        due("20 no part", x.convergent(0, 0, 2), Check.NO);
        due("20 no part below", x.convergent(0, 0, -1), Check.NO);
    }

    private static void promise21Nearest() {
        EclipseWheel x = node(0, 113, 355, 0);
        int[] most = {1, 6, 7, 105, 106, 112, 113, 1000};
        int[] want = {1, 6, 7, 99, 106, 106, 113, 113};
        for (int i = 0; i < most.length; i++) {
            due("21 355 over 113 to " + most[i], x.nearest(0, most[i]), want[i]);
        }
        EclipseWheel y = node(2, 4, 2, 0);
        due("21 of several the least", y.nearest(0, 1000), 2);
        due("21 1 alone", y.nearest(0, 1), 1);
        EclipseWheel sixth = node(0, 6, 1, 0);
        due("21 of several as far the least", sixth.nearest(0, 3), 1);
        due("21 1 over 4", sixth.nearest(0, 4), 5 - 1);
        due("21 1 over 5", sixth.nearest(0, 5), 5);
        due("21 itself", sixth.nearest(0, 6), 6);
        EclipseWheel great = node(0, 99991, 99999, 0);
        due("21 great", great.nearest(0, 1000), 1);
        EclipseWheel close = node(0, 100000, 33333, 0);
        due("21 close", close.nearest(0, 1000), 3);
        EclipseWheel half = node(0, 99999, 50000, 0);
        due("21 just above a half", half.nearest(0, 1000), 2);
        due("21 none", x.nearest(1, 5), Check.NONE);
        due("21 none below", x.nearest(-1, 5), Check.NONE);
        due("21 none ahead of bad", x.nearest(1, 0), Check.NONE);
        due("21 bad", x.nearest(0, 0), Check.BAD);
        due("21 bad below", x.nearest(0, -1), Check.BAD);
        due("21 bad above", x.nearest(0, 1001), Check.BAD);
    }
}
