/** Counts and prints the answers that are not the ones due; a test ends with exit code 1 if there was one. */
final class Check {
    static final long NO = Long.MIN_VALUE;
    static final int NONE = -1, BAD = -2, STATE = -3, FULL = -4, NOT = -5;
    static final int MISSING = -11, OUTSIDE = -12, KINDLESS = -13, SIZE = -14;

    private final String name;
    private int wrong = 0;
    private int right = 0;

    Check(String name) {
        this.name = name;
    }

    void due(String call, long got, long want) {
        if (got == want) {
            right++;
            return;
        }
        wrong++;
        if (wrong <= 50) {
            System.out.println(name + ": " + call + " answered " + got + ", due is " + want);
        }
    }

    boolean isClean() {
        return wrong == 0;
    }

    void end() {
        System.out.println(name + ": " + right + " answers as due, " + wrong + " not");
        if (wrong != 0) {
            System.exit(1);
        }
    }

    /** Feeds a text whole and reads it. */
    static int read(EclipseWheel x, String text) {
        for (int i = 0; i < text.length(); i++) {
            x.feed(text.charAt(i));
        }
        return x.read();
    }

    /** A node of 20 parts that goes on by one a month, the eclipses 3 (whole: 1) from the places 0 and 10. */
    static EclipseWheel small() {
        EclipseWheel x = new EclipseWheel();
        x.wheel(0, 20, 1, 0);
        x.rule(0, 3);
        x.rule(1, 1);
        return x;
    }

    /** An eclipse each so many months, at the multiples of that number, and nowhere else. */
    static EclipseWheel each(int months) {
        EclipseWheel x = new EclipseWheel();
        x.wheel(0, months * 2, 1, 0);
        x.rule(0, 0);
        return x;
    }

    /** A wheel that stands still where there is no eclipse. */
    static EclipseWheel dark() {
        EclipseWheel x = new EclipseWheel();
        x.wheel(0, 20, 0, 5);
        x.rule(0, 3);
        return x;
    }
}
