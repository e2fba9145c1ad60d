/** Promises 33 and 34: the tape fed, texts read. */
public final class TextTest {
    private static final Check check = new Check("TextTest");

    private static void due(String call, long got, long want) {
        check.due(call, got, want);
    }

    public static void main(String[] args) {
        promise33Feed();
        promise34Done();
        promise34Form();
        promise34Undoable();
        promise34Ahead();
        promise34Long();
        check.end();
    }

    private static void promise33Feed() {
        EclipseWheel x = new EclipseWheel();
        due("33 0", x.feed(0), 1);
        due("33 127", x.feed(127), 2);
        due("33 128", x.feed(128), Check.BAD);
        due("33 -1", x.feed(-1), Check.BAD);
        due("33 far off", x.feed(Integer.MAX_VALUE), Check.BAD);
        due("33 two", x.count(1), 2);
        for (int i = 3; i <= 80; i++) {
            due("33 " + i, x.feed('w'), i);
        }
        due("33 full", x.feed('w'), Check.FULL);
        due("33 bad ahead of full", x.feed(128), Check.BAD);
        due("33 80", x.count(1), 80);
        due("33 read", x.read(), -100);
        due("33 empty again", x.count(1), 0);
        due("33 from the first on", x.feed('w'), 1);
    }

    private static void dueRead(EclipseWheel x, String text, int want) {
        int done = x.count(2);
        due("34 read " + text, Check.read(x, text), want);
        due("34 the tape is empty by " + text, x.count(1), 0);
        due("34 texts done by " + text, x.count(2), done + (want > 0 ? 1 : 0));
    }

    private static void dueWheel(EclipseWheel x, int wheel, int... want) {
        for (int what = 0; what < want.length; what++) {
            due("34 of " + wheel + " " + what, x.of(wheel, what), want[what]);
        }
    }

    private static void promise34Done() {
        EclipseWheel x = new EclipseWheel();
        dueRead(x, "w38/446", 1);
        dueWheel(x, 0, 0, 446, 38, 0, 12);
        dueRead(x, "b1/100000+99999;l99999/2+0;h000007/000008+000003", 3);
        dueWheel(x, 1, 1, 100000, 1, 99999, 13);
        dueWheel(x, 2, 2, 2, 99999, 0, 124);
        dueWheel(x, 3, 3, 8, 7, 3, 135);
        dueRead(x, "g0/5+4;n4;a3;o99999;i0", 5);
        dueWheel(x, 4, 4, 5, 0, 4, 146);
        due("34 node", x.count(3), 4);
        due("34 apse", x.count(4), 3);
        due("34 outer", x.count(5), 99999);
        due("34 inner", x.count(6), 0);
        due("34 apse's limit stays", x.count(7), 20);
        dueRead(x, "o0", 1);
        due("34 outer 0", x.count(5), 0);
        dueRead(x, "i99999", 1);
        due("34 inner most", x.count(6), 99999);
        dueRead(x, "n0;n1;n000002", 3);
        due("34 the last one counts", x.count(3), 2);
        due("34 six texts", x.count(2), 6);
        EclipseWheel y = new EclipseWheel();
        dueRead(y, "g1/9;g1/9", 2);
        due("34 geared as wheel 0", y.of(0, 4), 12467);
        due("34 geared", y.of(1, 4), 1246);
    }

    private static void promise34Form() {
        String[] faulty = {
            "", "x", " ", "W1/2", "1", ";", "/", "+",
            "w", "w/", "wx", "w1", "w1;", "w1+", "w1/", "w1/;", "w1/+", "w1/2+", "w1/2+;", "w1/2+x", "w1/2+3+", "w1/2/",
            "w1/2 ", " w1/2", "w 1/2", "w1/2;", "w1/2;;", "w1/2;x", "w1/2;w", "w1/2,",
            "w1234567/2", "w1/1234567", "w1/2+1234567", "w123456", "w-1/2", "w1/-2",
            "n", "nx", "n;", "n0;", "n0x", "n0/", "n0+", "n1234567", "n0000000", "a", "a-1", "a0a", "o", "o1.", "i", "i1i",
            "n0;n", "o1;i2;a", "o1;i2;z", "n0n", "ww", "w1w", "w1/2w", "w1/2+3w", "n:", "n/", "w1/9:", "\u0000", "n0\u007f",
        };
        int[] places = {
            0, 0, 0, 0, 0, 0, 0, 0,
            1, 1, 1, 2, 2, 2, 3, 3, 3, 5, 5, 5, 6, 4,
            4, 0, 1, 5, 5, 5, 6, 4,
            7, 9, 11, 7, 1, 3,
            1, 1, 1, 3, 2, 2, 2, 7, 7, 1, 1, 2, 1, 2, 1, 2,
            4, 7, 6, 2, 1, 2, 4, 6, 1, 1, 4, 0, 2,
        };
        due("34 as many places as texts", faulty.length, places.length);
        for (int i = 0; i < Math.min(faulty.length, places.length); i++) {
            EclipseWheel x = new EclipseWheel();
            x.wheel(0, 9, 1, 0);
            dueRead(x, faulty[i], -100 - places[i]);
            due("34 nothing done by " + faulty[i], x.count(0), 1);
            due("34 nothing done to outer by " + faulty[i], x.count(5), 15);
            due("34 nothing done to inner by " + faulty[i], x.count(6), 9);
        }
        EclipseWheel x = new EclipseWheel();
        dueRead(x, "o7;i8;", -106);
        due("34 nothing done before the fault", x.count(5), 15);
        due("34 no text done", x.count(2), 0);
    }

    private static void promise34Undoable() {
        EclipseWheel x = new EclipseWheel();
        dueRead(x, "n0", -300);
        dueRead(x, "a0", -300);
        dueRead(x, "w100000/5", -300);
        dueRead(x, "w1/1", -300);
        dueRead(x, "w1/0", -300);
        dueRead(x, "w1/100001", -300);
        dueRead(x, "w1/5+5", -300);
        dueRead(x, "w1/100000+100000", -300);
        dueRead(x, "o100000", -300);
        dueRead(x, "i100000", -300);
        dueRead(x, "o999999;x", -108);
        dueRead(x, "o5;i100000", -303);
        dueRead(x, "o5;i5;w9/9+9", -306);
        due("34 nothing done by undoable ones", x.count(0), 0);
        due("34 nothing done by undoable ones to outer", x.count(5), 15);
        due("34 nothing done by undoable ones to inner", x.count(6), 9);
    }

    private static void promise34Ahead() {
        EclipseWheel x = new EclipseWheel();
        dueRead(x, "n0;w1/5", -300);
        dueRead(x, "w1/5;n1", -305);
        dueRead(x, "w1/5;a1;w1/5", -305);
        dueRead(x, "w1/5;n0;a0", 3);
        dueRead(x, "w1/5;a2", -305);
        dueRead(x, "w1/5;a1", 2);
        due("34 the apse just made", x.count(4), 1);
        dueRead(x, "w1/5;w1/5;w1/5;w1/5;w1/5", -320);
        due("34 no room, nothing done", x.count(0), 2);
        dueRead(x, "w1/5;w1/5;w1/5;n5;w1/5", -315);
        dueRead(x, "w1/5;w1/5;w1/5;w1/5;n5;a5", 6);
        due("34 six", x.count(0), 6);
        dueRead(x, "o3;h1/5", -303);
        dueRead(x, "a6", -300);
        due("34 node 5", x.count(3), 5);
    }

    private static void promise34Long() {
        EclipseWheel x = new EclipseWheel();
        x.wheel(0, 5, 1, 0);
        x.wheel(0, 5, 1, 0);
        StringBuilder text = new StringBuilder("n1");
        for (int i = 1; i < 27; i++) {
            text.append(i % 2 == 0 ? ";n1" : ";a0");
        }
        due("34 80 bytes", text.length(), 80);
        dueRead(x, text.toString(), 27);
        due("34 80 bytes done", x.count(3), 1);
        due("34 80 bytes done, too", x.count(4), 0);
        text.setCharAt(78, 'n');
        text.setCharAt(79, '2');
        dueRead(x, text.toString(), -378);
        text.setCharAt(79, ';');
        dueRead(x, text.toString(), -179);
        text.setLength(0);
        for (int i = 0; i < 20; i++) {
            text.append("o01;");
        }
        dueRead(x, text.toString(), -180);
        text.setLength(79);
        dueRead(x, text.toString(), 20);
        due("34 outer by a long one", x.count(5), 1);
    }
}
