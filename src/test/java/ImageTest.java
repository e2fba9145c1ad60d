/** Promises 44 to 46: counts, the image taken and laid back. */
public final class ImageTest {
    private static final Check check = new Check("ImageTest");

    private static void due(String call, long got, long want) {
        check.due(call, got, want);
    }

    public static void main(String[] args) {
        promise44Count();
        promise45And46Image();
        promise46Keeps();
        promise46Stays();
        promise46State();
        check.end();
    }

    private static void promise44Count() {
        EclipseWheel x = new EclipseWheel();
        for (int i = 0; i < 4; i++) {
            x.wheel(0, 10, 1, 0);
        }
        x.bind(2, 3);
        for (int i = 0; i < 6; i++) {
            x.rule(i, 100 + i);
        }
        Check.read(x, "o101;i102");
        Check.read(x, "q");
        x.feed('n');
        int[] want = {4, 1, 1, 2, 3, 101, 102, 102, 103, 104, 105};
        for (int i = 0; i < want.length; i++) {
            due("44 count " + i, x.count(i), want[i]);
        }
        due("44 bad 11", x.count(11), Check.BAD);
        due("44 bad -1", x.count(-1), Check.BAD);
        due("44 bad far off", x.count(Integer.MAX_VALUE), Check.BAD);
        due("44 bad far below", x.count(Integer.MIN_VALUE), Check.BAD);
    }

    private static EclipseWheel full() {
        EclipseWheel x = new EclipseWheel();
        x.wheel(0, 10, 1, 0);
        x.wheel(3, 11, 2, 3);
        x.wheel(4, 12, 3, 4);
        x.bind(1, 2);
        for (int i = 0; i < 6; i++) {
            x.rule(i, 50 + i);
        }
        return x;
    }

    private static void dueFull(String call, EclipseWheel x) {
        int[][] wheels = {{0, 10, 1, 0, 12}, {3, 11, 2, 3, 135}, {4, 12, 3, 4, 146}};
        for (int w = 0; w < 3; w++) {
            for (int what = 0; what < 5; what++) {
                due(call + " of " + w + " " + what, x.of(w, what), wheels[w][what]);
            }
        }
        due(call + " wheels", x.count(0), 3);
        due(call + " node", x.count(3), 1);
        due(call + " apse", x.count(4), 2);
        for (int i = 0; i < 6; i++) {
            due(call + " rule " + i, x.count(5 + i), 50 + i);
        }
    }

    private static void spoil(EclipseWheel x) {
        x.turn(0, 9, 9);
        x.turn(1, 8, 8);
        x.drop();
        x.drop();
        x.wheel(1, 99, 1, 0);
        x.wheel(1, 98, 1, 0);
        x.wheel(1, 97, 1, 0);
        x.bind(3, 0);
        for (int i = 0; i < 6; i++) {
            x.rule(i, 7);
        }
    }

    private static void promise45And46Image() {
        EclipseWheel x = full();
        due("45 image", x.image(), 3);
        dueFull("45 is asked alone", x);
        spoil(x);
        due("45 four wheels", x.count(0), 4);
        due("46 undo", x.undo(), 3);
        dueFull("46 undone", x);
        spoil(x);
        due("46 undo again", x.undo(), 3);
        dueFull("46 undone again", x);
        x.drop();
        due("45 another image", x.image(), 2);
        x.drop();
        x.drop();
        due("46 undo the other", x.undo(), 2);
        due("46 the other's apse", x.count(4), -1);
        due("46 the other's node", x.count(3), 1);
        due("46 no third one", x.of(2, 0), Check.NONE);
        due("46 at", x.at(1, 1), 10);
    }

    private static void promise46Keeps() {
        EclipseWheel x = new EclipseWheel();
        due("45 of none", x.image(), 0);
        spoil(x);
        x.wheel(0, 5, 1, 0);
        due("46 to none", x.undo(), 0);
        due("46 no wheels", x.of(0, 0), Check.NONE);
        due("46 rules", x.count(5), 15);
        due("46 state without wheels", x.eclipse(0, 0), Check.STATE);
        due("46 from none on", x.wheel(4, 5, 1, 0), 0);
        due("46 from none on, made", x.of(0, 4), 12467);
    }

    private static void promise46Stays() {
        EclipseWheel x = full();
        x.image();
        x.tray(0, 0, 2);
        x.lay(0, 0, 0);
        x.list(0, 2);
        x.put(0, 0, 5);
        Check.read(x, "o1");
        x.feed('a');
        x.undo();
        due("46 trays stay", x.laid(0, 0, 1), 10);
        due("46 lists stay", x.get(0, 0), 5);
        due("46 the tape stays", x.count(1), 1);
        due("46 texts done stay", x.count(2), 1);
        due("46 outer is undone", x.count(5), 50);
        x.turn(0, 5, 5);
        due("46 the laid one stays", x.laid(0, 0, 2), 1);
    }

    private static void promise46State() {
        EclipseWheel x = full();
        due("46 state", x.undo(), Check.STATE);
        dueFull("46 state changes nothing", x);
        x.image();
        due("46 then", x.undo(), 3);
        due("46 once more", x.undo(), 3);
    }
}
