/** Promises 22 to 26: dates, months from days, angles, sizes, the one with the greatest size. */
public final class DateTest {
    private static final Check check = new Check("DateTest");

    private static void due(String call, long got, long want) {
        check.due(call, got, want);
    }

    public static void main(String[] args) {
        promise22Date();
        promise22Leap();
        promise23Month();
        promise24Angle();
        promise25Size();
        promise26Most();
        check.end();
    }

    private static void dueDate(EclipseWheel x, int m, long... want) {
        for (int what = 0; what < 4; what++) {
            due("22 date(" + m + ", " + what + ")", x.date(m, what), want[what]);
        }
    }

    private static void promise22Date() {
        EclipseWheel x = new EclipseWheel();
        dueDate(x, 0, 0, 0, 0, 0);
        dueDate(x, 1, 29, 1, 0, 29);
        dueDate(x, 2, 59, 0, 0, 59);
        dueDate(x, 25, 737, 1, 2, 6);
        dueDate(x, -1, -30, 1, Check.NO, Check.NO);
        dueDate(x, -2, -59, 0, Check.NO, Check.NO);
        dueDate(x, -100000, -2950000, 0, Check.NO, Check.NO);
        dueDate(x, 100000, 2950000, 0, 8076, 241);
        due("22 no month", x.date(100001, 0), Check.NO);
        due("22 no month below", x.date(-100001, 1), Check.NO);
        due("22 no what", x.date(0, 4), Check.NO);
        due("22 no what below", x.date(0, -1), Check.NO);
        x.rule(4, 1000);
        x.rule(3, 1);
        dueDate(x, 999, 0, 999, 0, 0);
        dueDate(x, 1000, 1, 0, 0, 1);
        dueDate(x, -1, -1, 999, Check.NO, Check.NO);
        x.rule(3, 100000);
        x.rule(4, 1);
        dueDate(x, 100000, 10000000000L, 0, 27378507, 318);
        dueDate(x, -100000, -10000000000L, 0, Check.NO, Check.NO);
    }

    /** Month 1 begins at day days. */
    private static void dueYear(EclipseWheel x, int days, long year, long day) {
        x.rule(3, days);
        due("22 year of " + days, x.date(1, 2), year);
        due("22 day of year of " + days, x.date(1, 3), day);
    }

    private static void promise22Leap() {
        EclipseWheel x = new EclipseWheel();
        x.rule(4, 1);
        dueYear(x, 365, 0, 365);
        dueYear(x, 366, 1, 0);
        dueYear(x, 730, 1, 364);
        dueYear(x, 731, 2, 0);
        dueYear(x, 1460, 3, 364);
        dueYear(x, 1461, 4, 0);
        dueYear(x, 1826, 4, 365);
        dueYear(x, 1827, 5, 0);
        x.rule(5, 1);
        dueYear(x, 365, 0, 365);
        dueYear(x, 731, 1, 365);
        dueYear(x, 732, 2, 0);
        x.rule(5, 2);
        dueYear(x, 730, 1, 364);
        dueYear(x, 731, 2, 0);
        dueYear(x, 1096, 2, 365);
        dueYear(x, 1097, 3, 0);
        x.rule(5, 400);
        dueYear(x, 36500, 99, 364);
        dueYear(x, 36501, 100, 0);
        x.rule(3, 73000);
        due("22 400 years' last day", x.date(2, 2), 399);
        due("22 400 years' last day in it", x.date(2, 3), 364);
    }

    private static void promise23Month() {
        EclipseWheel x = new EclipseWheel();
        int[] days = {0, 1, 29, 30, 58, 59, 60, 88, 89, 1000000};
        int[] months = {0, 1, 1, 2, 2, 2, 3, 3, 4, 33899};
        for (int i = 0; i < days.length; i++) {
            due("23 month of " + days[i], x.month(days[i]), months[i]);
        }
        due("23 bad", x.month(-1), Check.BAD);
        due("23 bad above", x.month(1000001), Check.BAD);
        due("23 bad far below", x.month(Integer.MIN_VALUE), Check.BAD);
        x.rule(3, 1);
        x.rule(4, 1);
        due("23 the last month", x.month(100000), 100000);
        due("23 not", x.month(100001), Check.NOT);
        x.rule(4, 1000);
        due("23 slow", x.month(100), 100000);
        due("23 slow not", x.month(101), Check.NOT);
        due("23 slow far off", x.month(1000000), Check.NOT);
        x.rule(3, 100000);
        x.rule(4, 1);
        due("23 fast", x.month(1000000), 10);
        due("23 fast, one more", x.month(1), 1);
        due("23 fast, none", x.month(0), 0);
        x.rule(3, 3);
        x.rule(4, 2);
        due("23 3 over 2", x.month(2), 2);
        due("23 3 over 2 at 4", x.month(4), 3);
        due("23 3 over 2 at 5", x.month(5), 4);
    }

    private static void promise24Angle() {
        EclipseWheel x = new EclipseWheel();
        x.wheel(0, 360, 1, 0);
        x.wheel(0, 7, 1, 0);
        x.wheel(1, 99991, 31, 5);
        x.wheel(4, 100000, 1, 1);
        due("24 0", x.angle(0, 0), 0L);
        due("24 1", x.angle(0, 1), 0x3ff0000000000000L);
        due("24 2", x.angle(0, 2), 0x4000000000000000L);
        due("24 90", x.angle(0, 90), 0x4056800000000000L);
        due("24 359", x.angle(0, -1), Double.doubleToLongBits(359.0));
        due("24 no wheel", x.angle(4, 0), Check.NO);
        due("24 no wheel below", x.angle(-1, 0), Check.NO);
        due("24 no month", x.angle(0, 100001), Check.NO);
        due("24 no month below", x.angle(0, -100001), Check.NO);
        for (int m = -400; m <= 400; m += 23) {
            for (int w = 0; w < 4; w++) {
                double angle = 360.0 * x.at(w, m) / x.of(w, 1);
                due("24 angle(" + w + ", " + m + ")", x.angle(w, m), Double.doubleToLongBits(angle));
            }
        }
        for (int parts = 2; parts <= 100000; parts += parts < 100 ? 1 : 9990) {
            EclipseWheel y = new EclipseWheel();
            y.wheel(0, parts, 1, 0);
            for (int m = 0; m < Math.min(parts, 300); m++) {
                due("24 of " + parts + " at " + m, y.angle(0, m), Double.doubleToLongBits(360.0 * m / parts));
            }
            double greatest = 360.0 * (parts - 1) / parts;
            due("24 greatest of " + parts, y.angle(0, parts - 1), Double.doubleToLongBits(greatest));
        }
        EclipseWheel least = new EclipseWheel();
        least.wheel(0, 100000, 1, 0);
        due("24 least", least.angle(0, 1), Double.doubleToLongBits(360.0 / 100000));
    }

    private static void promise25Size() {
        EclipseWheel x = Check.small();
        float[] sizes = {3f / 4f, 2f / 4f, 1f / 4f, 0f, 0f, 0f, 0f, 0f, 1f / 4f, 2f / 4f, 3f / 4f};
        int[] grades = {750, 500, 250, 0, 0, 0, 0, 0, 250, 500, 750};
        for (int m = 0; m < sizes.length; m++) {
            due("25 size " + m, x.size(m, 0), Float.floatToIntBits(sizes[m]));
            due("25 grade " + m, x.size(m, 1), grades[m]);
        }
        int[] outers = {0, 1, 2, 5, 9, 16, 28, 99, 300, 1023, 40000, 99998};
        for (int outer : outers) {
            EclipseWheel y = new EclipseWheel();
            y.wheel(0, 100000, 1, 0);
            y.rule(0, outer);
            for (int m = 0; m <= 1200; m += 11) {
                float size = m > outer ? 0.0f : (float) (outer - m) / (float) (outer + 1);
                due("25 size by " + outer, y.size(m, 0), Float.floatToIntBits(size));
                due("25 grade by " + outer, y.size(m, 1), (int) (size * 1000.0f));
            }
        }
        EclipseWheel z = Check.small();
        z.rule(0, 99999);
        due("25 greatest outer", z.size(0, 0), Float.floatToIntBits(99999f / 100000f));
        due("25 greatest grade", z.size(0, 1), 999);
        z.wheel(0, 100000, 1, 0);
        z.bind(1, -1);
        z.rule(0, 25000);
        due("25 least size", z.size(24999, 0), Float.floatToIntBits(1f / 25001f));
        due("25 bad month", x.size(100001, 0), Check.BAD);
        due("25 bad month below", x.size(-100001, 0), Check.BAD);
        due("25 bad what", x.size(0, 2), Check.BAD);
        due("25 bad what below", x.size(0, -1), Check.BAD);
        due("25 state", new EclipseWheel().size(0, 0), Check.STATE);
        due("25 bad ahead of state", new EclipseWheel().size(0, 2), Check.BAD);
        due("25 bad month ahead of state", new EclipseWheel().size(100001, 0), Check.BAD);
    }

    private static void promise26Most() {
        EclipseWheel x = Check.small();
        due("26 first", x.most(4, 0, 1, 2, 3), 100000);
        due("26 second", x.most(4, 1, 0, 2, 3), 100001 - 1);
        due("26 third", x.most(4, 2, 1, 20, 3), 100020);
        due("26 fourth", x.most(4, 2, 1, 3, -10), 99990);
        due("26 of several the first", x.most(4, 3, 10, 20, 0), 100010);
        due("26 of several the first of three", x.most(3, 9, 1, 11, 0), 100009);
        due("26 of dark ones the first", x.most(4, 5, 6, 3, 4), 100005);
        due("26 two only", x.most(2, 3, 2, 0, 0), 100002);
        due("26 one only", x.most(1, 3, 0, 0, 0), 100003);
        due("26 three only", x.most(3, 3, 3, 2, 0), 100002);
        due("26 ends", x.most(2, -99997, 100000, 0, 0), 200000);
        int bad = 100001;
        due("26 not looked at 1", x.most(1, 3, bad, bad, bad), 100003);
        due("26 not looked at 2", x.most(2, 3, 2, -bad, bad), 100002);
        due("26 not looked at 3", x.most(3, 3, 2, 1, Integer.MIN_VALUE), 100001);
        due("26 bad n", x.most(0, 0, 0, 0, 0), Check.BAD);
        due("26 bad n above", x.most(5, 0, 0, 0, 0), Check.BAD);
        due("26 bad n below", x.most(-1, 0, 0, 0, 0), Check.BAD);
        due("26 bad a", x.most(1, bad, 0, 0, 0), Check.BAD);
        due("26 bad b", x.most(2, 0, -bad, 0, 0), Check.BAD);
        due("26 bad c", x.most(3, 0, 0, bad, 0), Check.BAD);
        due("26 bad d", x.most(4, 0, 0, 0, -bad), Check.BAD);
        due("26 bad a of four", x.most(4, -bad, 0, 0, 0), Check.BAD);
        due("26 state", new EclipseWheel().most(1, 0, bad, bad, bad), Check.STATE);
        due("26 bad ahead of state", new EclipseWheel().most(2, 0, bad, 0, 0), Check.BAD);
    }
}
