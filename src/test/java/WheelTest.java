/** Promises 1 to 7: a new object, wheels made, told, turned, dropped, their places and rounds. */
public final class WheelTest {
    private static final Check check = new Check("WheelTest");

    private static void due(String call, long got, long want) {
        check.due(call, got, want);
    }

    public static void main(String[] args) {
        promise1NewObject();
        promise2Wheel();
        promise3Of();
        promise3Made();
        promise4Turn();
        promise5Drop();
        promise6At();
        promise6Geared();
        promise7Rounds();
        check.end();
    }

    private static void promise1NewObject() {
        EclipseWheel x = new EclipseWheel();
        int[] counts = {0, 0, 0, 0, -1, 15, 9, 20, 59, 2, 4};
        for (int i = 0; i < counts.length; i++) {
            due("1 count " + i, x.count(i), counts[i]);
        }
        due("1 of", x.of(0, 0), Check.NONE);
        due("1 at", x.at(0, 0), Check.NONE);
        due("1 drop", x.drop(), Check.STATE);
        due("1 undo", x.undo(), Check.STATE);
        for (int i = 0; i < 4; i++) {
            due("1 laid " + i, x.laid(i, 0, 0), Check.MISSING);
        }
        for (int i = 0; i < 3; i++) {
            due("1 put " + i, x.put(i, 0, 0), Check.MISSING);
            due("1 get " + i, x.get(i, 0), Check.NO);
        }
        due("1 eclipses", x.eclipses(0, 3999, 0), 0);
        due("1 next", x.next(0, 0), Check.NOT);
        due("1 eclipse", x.eclipse(0, 0), Check.STATE);
        new EclipseWheel().wheel(0, 5, 1, 0);
        due("1 each object for itself", x.count(0), 0);
        due("1 NO", EclipseWheel.NO, Long.MIN_VALUE);
    }

    private static void promise2Wheel() {
        EclipseWheel x = new EclipseWheel();
        int[][] bad = {
            {-1, 5, 1, 1}, {5, 5, 1, 1}, {0, 1, 1, 0}, {0, 100001, 1, 0}, {0, 5, -1, 0}, {0, 5, 100000, 0},
            {0, 5, 1, -1}, {0, 5, 1, 5}, {Integer.MAX_VALUE, 5, 1, 1}, {0, Integer.MIN_VALUE, 1, 0},
            {0, 0, 0, 0}, {0, -5, 1, -6}, {4, 100000, 99999, 100000}, {1, 2, Integer.MIN_VALUE, 0},
        };
        for (int[] b : bad) {
            due("2 bad", x.wheel(b[0], b[1], b[2], b[3]), Check.BAD);
        }
        due("2 nothing came", x.count(0), 0);
        due("2 least", x.wheel(0, 2, 0, 0), 0);
        due("2 most", x.wheel(1, 100000, 99999, 99999), 1);
        due("2 lame", x.wheel(2, 2, 99999, 1), 2);
        due("2 hasty", x.wheel(3, 7, 8, 6), 3);
        due("2 geared", x.wheel(4, 7, 8, 6), 4);
        due("2 five", x.count(0), 5);
        due("2 sixth", x.wheel(0, 7, 8, 6), 5);
        due("2 full", x.wheel(0, 7, 8, 6), Check.FULL);
        due("2 bad ahead of full", x.wheel(0, 7, 8, 7), Check.BAD);
        due("2 bad kind ahead of full", x.wheel(5, 7, 8, 6), Check.BAD);
        due("2 six", x.count(0), 6);
        due("2 the first stands", x.of(0, 1), 2);
    }

    private static void promise3Of() {
        EclipseWheel x = new EclipseWheel();
        x.wheel(3, 77, 88, 6);
        x.wheel(2, 100000, 99999, 99999);
        int[] first = {3, 77, 88, 6, 135};
        int[] second = {2, 100000, 99999, 99999, 14};
        for (int i = 0; i < 5; i++) {
            due("3 of 0 " + i, x.of(0, i), first[i]);
            due("3 of 1 " + i, x.of(1, i), second[i]);
        }
        due("3 no what 5", x.of(0, 5), Check.NONE);
        due("3 no what -1", x.of(0, -1), Check.NONE);
        due("3 no wheel 2", x.of(2, 0), Check.NONE);
        due("3 no wheel -1", x.of(-1, 0), Check.NONE);
        due("3 no wheel 6", x.of(6, 0), Check.NONE);
        due("3 no wheel far off", x.of(Integer.MIN_VALUE, 0), Check.NONE);
    }

    private static void promise3Made() {
        int[] started = {1, 13, 14, 135, 146};
        int[] unstarted = {12, 123, 124, 1235, 1246};
        for (int kind = 0; kind < 5; kind++) {
            EclipseWheel x = new EclipseWheel();
            x.wheel(kind, 9, 2, 4);
            x.wheel(kind, 9, 2, 4);
            x.wheel(kind, 9, 2, 0);
            due("3 made first", x.of(0, 4), kind == 4 ? 1467 : started[kind]);
            due("3 made second", x.of(1, 4), started[kind]);
            due("3 made at 0", x.of(2, 4), unstarted[kind]);
            EclipseWheel y = new EclipseWheel();
            y.wheel(kind, 9, 0, 0);
            due("3 made first at 0", y.of(0, 4), kind == 4 ? 12467 : unstarted[kind]);
        }
    }

    private static void promise4Turn() {
        EclipseWheel x = new EclipseWheel();
        x.wheel(0, 30, 7, 11);
        x.wheel(1, 10, 3, 0);
        x.wheel(4, 12, 5, 9);
        due("4 turn", x.turn(0, 8, 12), 11);
        due("4 step", x.of(0, 2), 8);
        due("4 start", x.of(0, 3), 12);
        due("4 at", x.at(0, 1), 20);
        due("4 made stays", x.of(0, 4), 1);
        due("4 turn again", x.turn(0, 99999, 0), 12);
        due("4 made stays at 0", x.of(0, 4), 1);
        due("4 turn to the last place", x.turn(0, 0, 29), 0);
        due("4 none 3", x.turn(3, 1, 1), Check.NONE);
        due("4 none -1", x.turn(-1, 1, 1), Check.NONE);
        due("4 none ahead of bad", x.turn(3, -1, -1), Check.NONE);
        due("4 bad start", x.turn(0, 1, 30), Check.BAD);
        due("4 bad start below", x.turn(0, 1, -1), Check.BAD);
        due("4 bad step", x.turn(0, 100000, 1), Check.BAD);
        due("4 bad step below", x.turn(0, -1, 1), Check.BAD);
        due("4 bad changes nothing", x.of(0, 2), 0);
        due("4 bad changes nothing either", x.of(0, 3), 29);
        due("4 back", x.turn(1, 4, 9), 0);
        due("4 back made", x.of(1, 4), 123);
        due("4 geared", x.turn(2, 6, 11), 9);
        due("4 geared again", x.turn(2, 6, 1), 11);
    }

    private static void promise5Drop() {
        EclipseWheel x = new EclipseWheel();
        for (int i = 0; i < 4; i++) {
            x.wheel(0, 10 + i, 1, 0);
        }
        x.bind(2, 3);
        due("5 drop the apse", x.drop(), 3);
        due("5 node stays", x.count(3), 2);
        due("5 apse none", x.count(4), -1);
        due("5 gone", x.of(3, 0), Check.NONE);
        x.bind(2, 1);
        due("5 drop the node", x.drop(), 2);
        due("5 node 0", x.count(3), 0);
        due("5 apse stays", x.count(4), 1);
        x.bind(0, 0);
        due("5 drop neither", x.drop(), 1);
        due("5 apse stays 0", x.count(4), 0);
        due("5 drop both", x.drop(), 0);
        due("5 node 0 of none", x.count(3), 0);
        due("5 apse none of none", x.count(4), -1);
        due("5 state", x.drop(), Check.STATE);
        due("5 none", x.count(0), 0);
        due("5 a new one", x.wheel(4, 9, 1, 1), 0);
        due("5 a new one's made", x.of(0, 4), 1467);
        EclipseWheel y = new EclipseWheel();
        y.wheel(0, 10, 1, 0);
        y.wheel(0, 11, 1, 0);
        y.bind(1, 1);
        due("5 both at once", y.drop(), 1);
        due("5 both at once node", y.count(3), 0);
        due("5 both at once apse", y.count(4), -1);
    }

    private static void promise6At() {
        EclipseWheel x = new EclipseWheel();
        x.wheel(0, 10, 3, 4);
        x.wheel(1, 10, 3, 4);
        x.wheel(2, 10, 3, 4);
        x.wheel(3, 10, 3, 4);
        int[] months = {0, 1, 2, 3, -1, -2, -3, 100000, -100000, 99999, -99999};
        int[] plain = {4, 7, 0, 3, 1, 8, 5, 4, 4, 1, 7};
        int[] back = {4, 1, 8, 5, 7, 0, 3, 4, 4, 7, 1};
        int[] lame = {4, 4, 7, 7, 1, 1, 8, 4, 4, 1, 4};
        int[] hasty = {4, 8, 2, 6, 0, 6, 2, 4, 4, 0, 8};
        for (int i = 0; i < months.length; i++) {
            due("6 plain at " + months[i], x.at(0, months[i]), plain[i]);
            due("6 back at " + months[i], x.at(1, months[i]), back[i]);
            due("6 lame at " + months[i], x.at(2, months[i]), lame[i]);
            due("6 hasty at " + months[i], x.at(3, months[i]), hasty[i]);
        }
        due("6 none", x.at(4, 0), Check.NONE);
        due("6 none below", x.at(-1, 0), Check.NONE);
        due("6 bad", x.at(0, 100001), Check.BAD);
        due("6 bad below", x.at(0, -100001), Check.BAD);
        due("6 bad far below", x.at(0, Integer.MIN_VALUE), Check.BAD);
        due("6 none ahead of bad", x.at(4, 100001), Check.NONE);
        EclipseWheel y = new EclipseWheel();
        y.wheel(0, 100000, 99999, 99999);
        due("6 beyond an int", y.at(0, 100000), (99999L * 100001) % 100000);
        due("6 beyond an int below", y.at(0, -100000), Math.floorMod(99999L - 99999L * 100000, 100000L));
    }

    private static void promise6Geared() {
        EclipseWheel x = new EclipseWheel();
        x.wheel(4, 10, 3, 4);
        x.wheel(4, 5, 2, 1);
        x.wheel(1, 2, 1, 0);
        x.wheel(4, 7, 1, 3);
        // the first geared one goes as a plain one: 4 + 3m; its rounds drive the second
        due("6 geared first", x.at(0, 5), 9);
        due("6 geared first below", x.at(0, -1), 1);
        due("6 geared second", x.at(1, 5), 3);
        due("6 geared second later", x.at(1, 100), (1 + 2 * 30) % 5);
        due("6 geared second below", x.at(1, -2), (1 + 2 * 99999) % 5);
        // the back one at m: -m; its rounds below 0 are told modulo 100000
        due("6 geared by a back one", x.at(3, 2), (3 + 99999) % 7);
        due("6 geared by a back one at 0", x.at(3, 0), 3);
        due("6 geared by a back one far", x.at(3, 100000), (3 + 50000) % 7);
        due("6 geared by a back one below", x.at(3, -8), (3 + 4) % 7);
        EclipseWheel y = new EclipseWheel();
        y.wheel(0, 2, 99999, 0);
        y.wheel(4, 100000, 1, 0);
        y.wheel(4, 2, 99999, 1);
        // rounds of the first at 3: 299997 over 2, cut: 149998, modulo 100000: 49998
        due("6 modulo 100000", y.at(1, 3), 49998);
        due("6 rounds modulo 100000", y.rounds(1, 3), 0);
        due("6 driven by a driven one", y.at(2, 3), 1);
        due("6 driven by a driven one's rounds", y.rounds(2, 3), 0);
        y.turn(1, 99999, 0);
        // 99999 times 49998 is 4999750002: 49997 rounds of 100000
        due("6 its rounds", y.rounds(1, 3), 49997);
        due("6 driven farther", y.rounds(2, 3), (1 + 99999L * 49997) / 2);
    }

    private static void promise7Rounds() {
        EclipseWheel x = new EclipseWheel();
        x.wheel(0, 10, 3, 4);
        x.wheel(1, 10, 3, 4);
        x.wheel(2, 10, 3, 4);
        x.wheel(3, 10, 3, 4);
        x.wheel(4, 10, 3, 4);
        due("7 plain", x.rounds(0, 2), 1);
        due("7 plain before", x.rounds(0, 1), 0);
        due("7 plain below", x.rounds(0, -2), -1);
        due("7 plain whole rounds below", x.rounds(0, -8), -2);
        due("7 back", x.rounds(1, 2), -1);
        due("7 lame", x.rounds(2, 4), 1);
        due("7 lame before", x.rounds(2, 3), 0);
        due("7 hasty", x.rounds(3, 1), -1);
        due("7 hasty below", x.rounds(3, -1), 1);
        due("7 geared", x.rounds(4, 4), (4 + 3 * 99997) / 10);
        due("7 no wheel", x.rounds(5, 0), Check.NO);
        due("7 no wheel below", x.rounds(-1, 0), Check.NO);
        due("7 no month", x.rounds(0, 100001), Check.NO);
        due("7 no month below", x.rounds(0, -100001), Check.NO);
        due("7 last month", x.rounds(0, 100000), 30000);
        due("7 first month", x.rounds(0, -100000), -30000);
        EclipseWheel y = new EclipseWheel();
        y.wheel(3, 2, 99999, 0);
        due("7 beyond an int", y.rounds(0, -100000), 9999900000L);
        due("7 beyond an int below", y.rounds(0, 100000), -9999900000L);
    }
}
