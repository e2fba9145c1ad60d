import java.math.BigInteger;
import java.util.ArrayList;
import java.util.Arrays;
import java.util.HashMap;
import java.util.List;
import java.util.Map;
import java.util.TreeMap;
import java.util.regex.Matcher;
import java.util.regex.Pattern;

/** The document's words once more, slow and written another way, to be asked beside the program. */
final class Model {
    static final long NO = Long.MIN_VALUE;

    static class Wheel implements Cloneable {
        int kind;
        int parts;
        int step;
        int start;
        int made;

        @Override
        public Wheel clone() {
            try {
                return (Wheel) super.clone();
            } catch (CloneNotSupportedException e) {
                throw new IllegalStateException(e);
            }
        }
    }

    static final class Tray {
        int kind;
        Wheel[] places;
    }

    static final class Kept {
        List<Wheel> wheels = new ArrayList<>();
        int node = 0;
        int apse = -1;
        int[] rules = {15, 9, 20, 59, 2, 4};

        Kept copy() {
            Kept c = new Kept();
            for (Wheel w : wheels) {
                c.wheels.add(w.clone());
            }
            c.node = node;
            c.apse = apse;
            c.rules = rules.clone();
            return c;
        }
    }

    Kept s = new Kept();
    Kept image = null;
    String tape = "";
    int texts = 0;
    Tray[] trays = new Tray[4];
    long[][] lists = new long[3][];

    static boolean isMonth(long m) {
        return m >= -100000 && m <= 100000;
    }

    boolean isWheel(int w) {
        return w >= 0 && w < s.wheels.size();
    }

    static boolean fits(int kind, int parts, int step, int start) {
        return kind >= 0 && kind <= 4 && parts >= 2 && parts <= 100000 && step >= 0 && step <= 99999
            && start >= 0 && start <= parts - 1;
    }

    static final String[] LINEAGE = {"0", "01", "02", "013", "024"};

    int wheel(int kind, int parts, int step, int start) {
        if (!fits(kind, parts, step, start)) {
            return -2;
        }
        if (s.wheels.size() == 6) {
            return -4;
        }
        Wheel w = new Wheel();
        w.kind = kind;
        w.parts = parts;
        w.step = step;
        w.start = start;
        String digits = "1" + (start == 0 ? "2" : "");
        for (char c : LINEAGE[kind].toCharArray()) {
            switch (c) {
                case '1': digits += "3"; break;
                case '2': digits += "4"; break;
                case '3': digits += "5"; break;
                case '4': digits += s.wheels.isEmpty() ? "67" : "6"; break;
                default:
            }
        }
        w.made = Integer.parseInt(digits);
        s.wheels.add(w);
        return s.wheels.size() - 1;
    }

    int of(int wheel, int what) {
        if (!isWheel(wheel) || what < 0 || what > 4) {
            return -1;
        }
        Wheel w = s.wheels.get(wheel);
        return new int[] {w.kind, w.parts, w.step, w.start, w.made}[what];
    }

    int turn(int wheel, int step, int start) {
        if (!isWheel(wheel)) {
            return -1;
        }
        Wheel w = s.wheels.get(wheel);
        if (!fits(0, w.parts, step, start)) {
            return -2;
        }
        int was = at(wheel, 0);
        w.step = step;
        w.start = start;
        return was;
    }

    int drop() {
        if (s.wheels.isEmpty()) {
            return -3;
        }
        int last = s.wheels.size() - 1;
        s.wheels.remove(last);
        if (s.node == last) {
            s.node = 0;
        }
        if (s.apse == last) {
            s.apse = -1;
        }
        return last;
    }

    long way(int wheel, long m) {
        Wheel w = s.wheels.get(wheel);
        BigInteger by;
        if (w.kind == 0 || (w.kind == 4 && wheel == 0)) {
            by = BigInteger.valueOf(m);
        } else if (w.kind == 1) {
            by = BigInteger.valueOf(-m);
        } else if (w.kind == 2) {
            by = BigInteger.valueOf((m - (m % 2 == 0 ? 0 : 1)) / 2);
        } else if (w.kind == 3) {
            by = BigInteger.valueOf(-2 * m);
        } else {
            by = BigInteger.valueOf(turns(wheel - 1, m)).mod(BigInteger.valueOf(100000));
        }
        return by.multiply(BigInteger.valueOf(w.step)).add(BigInteger.valueOf(w.start)).longValueExact();
    }

    long turns(int wheel, long m) {
        BigInteger way = BigInteger.valueOf(way(wheel, m));
        BigInteger parts = BigInteger.valueOf(s.wheels.get(wheel).parts);
        return way.subtract(way.mod(parts)).divide(parts).longValueExact();
    }

    int at(int wheel, int m) {
        if (!isWheel(wheel)) {
            return -1;
        }
        if (!isMonth(m)) {
            return -2;
        }
        return (int) place(wheel, m);
    }

    long place(int wheel, long m) {
        return way(wheel, m) - turns(wheel, m) * s.wheels.get(wheel).parts;
    }

    long rounds(int wheel, int m) {
        return isWheel(wheel) && isMonth(m) ? turns(wheel, m) : NO;
    }

    int bind(int node, int apse) {
        if (!isWheel(node) || (apse != -1 && !isWheel(apse))) {
            return -1;
        }
        s.node = node;
        s.apse = apse;
        return 1;
    }

    static final int[][] RULES = {{0, 99999}, {0, 99999}, {0, 99999}, {1, 100000}, {1, 1000}, {1, 400}};

    int rule(int what, int v) {
        if (what < 0 || what > 5) {
            return -1;
        }
        if (v < RULES[what][0] || v > RULES[what][1]) {
            return -2;
        }
        int was = s.rules[what];
        s.rules[what] = v;
        return was;
    }

    static long near(long p, long q, long parts) {
        long a = p - q;
        while (a < 0) {
            a += parts;
        }
        long b = q - p;
        while (b < 0) {
            b += parts;
        }
        return a < b ? a : b;
    }

    /** Eclipse, far and side. */
    int[] sky(int m) {
        if (s.wheels.isEmpty()) {
            return new int[] {0, 0, 0};
        }
        int parts = s.wheels.get(s.node).parts;
        long p = place(s.node, m);
        long zero = near(p, 0, parts);
        long half = near(p, parts / 2, parts);
        int far = (int) Math.min(zero, half);
        int side = zero <= half ? 0 : 1;
        int eclipse = 2;
        if (far > s.rules[0]) {
            eclipse = 0;
        } else if (far > s.rules[1]) {
            eclipse = 1;
        } else if (s.apse >= 0 && near(place(s.apse, m), 0, s.wheels.get(s.apse).parts) > s.rules[2]) {
            eclipse = 3;
        }
        return new int[] {eclipse, far, side};
    }

    int eclipse(int m, int what) {
        if (!isMonth(m) || what < 0 || what > 2) {
            return -2;
        }
        return s.wheels.isEmpty() ? -3 : sky(m)[what];
    }

    static boolean stretch(long a, long b, int most) {
        return isMonth(a) && isMonth(b) && b >= a && b - a + 1 <= most;
    }

    int eclipses(int a, int b, int kind) {
        if (!stretch(a, b, 4000)) {
            return -2;
        }
        if (kind < 0 || kind > 3) {
            return -1;
        }
        int[] many = new int[4];
        for (int m = a; m <= b; m++) {
            many[sky(m)[0]]++;
        }
        return kind == 0 ? many[1] + many[2] + many[3] : many[kind];
    }

    int next(int m, int way) {
        if (!isMonth(m) || way < 0 || way > 1) {
            return -2;
        }
        for (int there = way == 0 ? m + 1 : m - 1; isMonth(there) && Math.abs(there - m) <= 4000; there += 1 - 2 * way) {
            if (sky(there)[0] > 0) {
                return 100000 + there;
            }
        }
        return -5;
    }

    int family(int m, int k, int what) {
        if (!isMonth(m) || k < 1 || k > 2000 || what < 0 || what > 2) {
            return -2;
        }
        int[] sky = sky(m);
        if (sky[0] == 0) {
            return -5;
        }
        int[] ends = {m, m};
        int many = 1;
        for (int end = 0; end < 2; end++) {
            int by = end == 0 ? -k : k;
            int more = 0;
            while (more < 500 && isMonth(ends[end] + by)) {
                int[] there = sky(ends[end] + by);
                if (there[0] == 0 || there[2] != sky[2]) {
                    break;
                }
                ends[end] += by;
                more++;
                many++;
            }
        }
        return what == 2 ? many : 100000 + ends[what];
    }

    static final class Family {
        int latest;
        int side;
        int many;
    }

    int roll(int a, int b, int k, int what) {
        if (!stretch(a, b, 200) || k < 1 || k > 2000 || what < 0 || what > 4) {
            return -2;
        }
        List<Family> alive = new ArrayList<>();
        int born = 0;
        int ended = 0;
        int largest = 0;
        int most = 0;
        for (int m = a; m <= b; m++) {
            int[] sky = sky(m);
            if (sky[0] != 0) {
                Family mine = null;
                for (Family f : alive) {
                    if (f.latest == m - k && f.side == sky[2]) {
                        mine = f;
                    }
                }
                if (mine == null) {
                    mine = new Family();
                    mine.side = sky[2];
                    alive.add(mine);
                    born++;
                }
                mine.latest = m;
                mine.many++;
                largest = Math.max(largest, mine.many);
            }
            int behind = m - k;
            int before = alive.size();
            alive.removeIf(f -> f.latest <= behind);
            ended += before - alive.size();
            most = Math.max(most, alive.size());
        }
        return new int[] {born, ended, alive.size(), largest, most}[what];
    }

    int driftOf(int k, int what) {
        int parts = s.wheels.get(s.node).parts;
        long q = place(s.node, 0);
        if (what == 1) {
            q = (q + parts / 2) % parts;
        }
        return (int) near(place(s.node, k), q, parts);
    }

    int drift(int k, int what) {
        if (k < 1 || k > 2000 || what < 0 || what > 1) {
            return -2;
        }
        return s.wheels.isEmpty() ? -3 : driftOf(k, what);
    }

    List<Integer> recordsTo(int most, int what) {
        List<Integer> found = new ArrayList<>();
        for (int k = 1; k <= most; k++) {
            if (found.isEmpty() || driftOf(k, what) < driftOf(found.get(found.size() - 1), what)) {
                found.add(k);
            }
        }
        return found;
    }

    int records(int most, int what) {
        if (most < 1 || most > 2000 || what < 0 || what > 1) {
            return -2;
        }
        return s.wheels.isEmpty() ? -3 : recordsTo(most, what).size();
    }

    int record(int i, int what) {
        if (what < 0 || what > 1) {
            return -2;
        }
        if (s.wheels.isEmpty()) {
            return -3;
        }
        List<Integer> all = recordsTo(2000, what);
        return i < 0 || i >= all.size() ? -1 : all.get(i);
    }

    static List<Integer> termsOf(int x, int y) {
        List<Integer> all = new ArrayList<>();
        if (y > 0) {
            all.add(x / y);
            all.addAll(termsOf(y, x % y));
        }
        return all;
    }

    int terms(int wheel) {
        return isWheel(wheel) ? termsOf(s.wheels.get(wheel).step, s.wheels.get(wheel).parts).size() : -1;
    }

    int term(int wheel, int i) {
        if (!isWheel(wheel)) {
            return -1;
        }
        List<Integer> all = termsOf(s.wheels.get(wheel).step, s.wheels.get(wheel).parts);
        return i < 0 || i >= all.size() ? -1 : all.get(i);
    }

    long convergent(int wheel, int i, int part) {
        if (!isWheel(wheel) || term(wheel, i) == -1 || part < 0 || part > 1) {
            return NO;
        }
        // from the last term inward: above over below
        BigInteger above = BigInteger.valueOf(term(wheel, i));
        BigInteger below = BigInteger.ONE;
        for (int n = i - 1; n >= 0; n--) {
            BigInteger t = BigInteger.valueOf(term(wheel, n)).multiply(above).add(below);
            below = above;
            above = t;
        }
        BigInteger common = above.gcd(below);
        return (part == 0 ? above : below).divide(common).longValueExact();
    }

    int nearest(int wheel, int most) {
        if (!isWheel(wheel)) {
            return -1;
        }
        if (most < 1 || most > 1000) {
            return -2;
        }
        long step = s.wheels.get(wheel).step;
        long parts = s.wheels.get(wheel).parts;
        long bestAbove = -1;
        long best = 1;
        for (long below = 1; below <= most; below++) {
            for (long above = step * below / parts; above <= step * below / parts + 1; above++) {
                long far = Math.abs(above * parts - step * below);
                long bestFar = Math.abs(bestAbove * parts - step * best);
                if (far * best < bestFar * below) {
                    bestAbove = above;
                    best = below;
                }
            }
        }
        return (int) best;
    }

    long dayOf(long m) {
        BigInteger all = BigInteger.valueOf(s.rules[3]).multiply(BigInteger.valueOf(m));
        BigInteger q = BigInteger.valueOf(s.rules[4]);
        return all.subtract(all.mod(q)).divide(q).longValueExact();
    }

    long date(int m, int what) {
        if (!isMonth(m) || what < 0 || what > 3) {
            return NO;
        }
        long day = dayOf(m);
        if (what == 0) {
            return day;
        }
        if (what == 1) {
            return (long) s.rules[3] * m - s.rules[4] * day;
        }
        if (day < 0) {
            return NO;
        }
        long year = 0;
        long left = day;
        // whole leap cycles at once, or the oldest dates take a minute
        long cycle = 365L * s.rules[5] + 1;
        if (left > 100 * cycle) {
            long whole = left / cycle - 1;
            left -= whole * cycle;
            year = whole * s.rules[5];
        }
        while (left >= (year % s.rules[5] == 0 ? 366 : 365)) {
            left -= year % s.rules[5] == 0 ? 366 : 365;
            year++;
        }
        return what == 2 ? year : left;
    }

    int month(int day) {
        if (day < 0 || day > 1000000) {
            return -2;
        }
        int low = 0;
        int high = 100001;
        while (low < high) {
            int mid = (low + high) / 2;
            if (dayOf(mid) >= day) {
                high = mid;
            } else {
                low = mid + 1;
            }
        }
        return low > 100000 ? -5 : low;
    }

    long angle(int wheel, int m) {
        if (!isWheel(wheel) || !isMonth(m)) {
            return NO;
        }
        return Double.doubleToRawLongBits(360.0 * at(wheel, m) / s.wheels.get(wheel).parts);
    }

    float sizeOf(int m) {
        int[] sky = sky(m);
        return sky[0] == 0 ? 0.0f : (float) (s.rules[0] - sky[1]) / (float) (s.rules[0] + 1);
    }

    int size(int m, int what) {
        if (!isMonth(m) || what < 0 || what > 1) {
            return -2;
        }
        if (s.wheels.isEmpty()) {
            return -3;
        }
        return what == 0 ? Float.floatToRawIntBits(sizeOf(m)) : (int) (sizeOf(m) * 1000.0f);
    }

    int most(int n, int a, int b, int c, int d) {
        if (n < 1 || n > 4) {
            return -2;
        }
        int[] all = Arrays.copyOf(new int[] {a, b, c, d}, n);
        for (int m : all) {
            if (!isMonth(m)) {
                return -2;
            }
        }
        if (s.wheels.isEmpty()) {
            return -3;
        }
        int best = all[0];
        for (int m : all) {
            best = sizeOf(m) > sizeOf(best) ? m : best;
        }
        return best + 100000;
    }

    /** Tried one by one, for wheels of few parts; by the words for the others. */
    long period(int wheel) {
        if (!isWheel(wheel) || s.wheels.get(wheel).kind == 4) {
            return NO;
        }
        Wheel w = s.wheels.get(wheel);
        if (w.parts > 60) {
            BigInteger parts = BigInteger.valueOf(w.parts);
            long k = parts.divide(parts.gcd(BigInteger.valueOf(w.kind == 3 ? 2L * w.step : w.step))).longValue();
            return w.kind != 2 ? k : k == 1 ? 1 : 2 * k;
        }
        for (int k = 1; ; k++) {
            boolean same = true;
            for (int m = -2 * w.parts; m <= 2 * w.parts && same; m++) {
                same = place(wheel, m) == place(wheel, m + k);
            }
            if (same) {
                return k;
            }
        }
    }

    long allRound(int set) {
        BigInteger all = BigInteger.ONE;
        for (int i = 0; i < 32; i++) {
            if ((set & (1 << i)) != 0) {
                if (!isWheel(i) || period(i) == NO) {
                    return NO;
                }
                BigInteger p = BigInteger.valueOf(period(i));
                all = all.multiply(p).divide(all.gcd(p));
            }
        }
        return all.bitLength() > 63 ? NO : all.longValue();
    }

    int meeting(int a, int p, int b, int q) {
        if (!isWheel(a) || !isWheel(b)) {
            return -1;
        }
        if (p < 0 || p >= s.wheels.get(a).parts || q < 0 || q >= s.wheels.get(b).parts) {
            return -2;
        }
        int m = 0;
        while (m <= 100000 && (place(a, m) != p || place(b, m) != q)) {
            m++;
        }
        return m <= 100000 ? m : -5;
    }

    List<Integer> from(int m, int most) {
        List<Integer> found = new ArrayList<>();
        for (int there = m; there < m + 4000 && isMonth(there) && found.size() < most; there++) {
            if (sky(there)[0] != 0) {
                found.add(there);
            }
        }
        return found;
    }

    String paperOf(int m) {
        StringBuilder text = new StringBuilder();
        for (int there : from(m, 12)) {
            text.append(text.length() == 0 ? "" : ";").append(there)
                .append(" pwr".charAt(sky(there)[0])).append(sky(there)[2]);
        }
        return text.toString();
    }

    int spell(int m) {
        return isMonth(m) ? paperOf(m).length() : -2;
    }

    int paper(int m, int i) {
        if (!isMonth(m)) {
            return -2;
        }
        String text = paperOf(m);
        return i < 0 || i >= text.length() ? -1 : text.charAt(i);
    }

    int gap(int m, int n, int what) {
        if (!isMonth(m) || n < 1 || n > 60 || what < 0 || what > 2) {
            return -2;
        }
        List<Integer> found = from(m, n + 1);
        if (found.size() <= n) {
            return -5;
        }
        TreeMap<Integer, Integer> times = new TreeMap<>();
        for (int i = 1; i <= n; i++) {
            times.merge(found.get(i) - found.get(i - 1), 1, Integer::sum);
        }
        int common = times.firstKey();
        for (Map.Entry<Integer, Integer> e : times.entrySet()) {
            common = e.getValue() > times.get(common) ? e.getKey() : common;
        }
        return what == 0 ? common : what == 1 ? times.get(common) : times.lastKey();
    }

    int feed(int letter) {
        if (letter < 0 || letter > 127) {
            return -2;
        }
        if (tape.length() >= 80) {
            return -4;
        }
        tape += (char) letter;
        return tape.length();
    }

    static final String NUMBER = "[0-9]{1,6}";
    static final String STATEMENT = "(?:[wblhg]" + NUMBER + "/" + NUMBER + "(?:\\+" + NUMBER + ")?|[naoi]" + NUMBER + ")";
    static final Pattern TEXT = Pattern.compile(STATEMENT + "(?:;" + STATEMENT + ")*");

    int fault(String text) {
        if (TEXT.matcher(text).matches()) {
            return 0;
        }
        for (int i = 0; i < text.length(); i++) {
            Matcher ahead = TEXT.matcher(text.substring(0, i + 1));
            // a beginning matches itself, or fails only because it is at an end
            if (!ahead.matches() && !ahead.hitEnd()) {
                return -100 - i;
            }
        }
        return -100 - text.length();
    }

    int read() {
        String text = tape;
        tape = "";
        int fault = fault(text);
        if (fault != 0) {
            return fault;
        }
        Model trial = new Model();
        trial.s = s.copy();
        int place = 0;
        String[] statements = text.split(";");
        for (String statement : statements) {
            if (!trial.does(statement)) {
                return -300 - place;
            }
            place += statement.length() + 1;
        }
        for (String statement : statements) {
            does(statement);
        }
        texts++;
        return statements.length;
    }

    boolean does(String statement) {
        String[] numbers = statement.substring(1).split("[/+]");
        int first = Integer.parseInt(numbers[0]);
        switch (statement.charAt(0)) {
            case 'n':
                return isWheel(first) && bind(first, s.apse) == 1;
            case 'a':
                return isWheel(first) && bind(s.node, first) == 1;
            case 'o':
                return rule(0, first) >= 0;
            case 'i':
                return rule(1, first) >= 0;
            default:
                int kind = "wblhg".indexOf(statement.charAt(0));
                int start = numbers.length > 2 ? Integer.parseInt(numbers[2]) : 0;
                return wheel(kind, Integer.parseInt(numbers[1]), first, start) >= 0;
        }
    }

    int tray(int tray, int kind, int n) {
        if (tray < 0 || tray > 3) {
            return -1;
        }
        if (kind == -1) {
            trays[tray] = null;
            return 1;
        }
        if (kind < 0 || kind > 4 || n > 12) {
            return -2;
        }
        if (n < 0) {
            return -14;
        }
        trays[tray] = new Tray();
        trays[tray].kind = kind;
        trays[tray].places = new Wheel[n];
        return 1;
    }

    int lay(int tray, int i, int wheel) {
        if (tray < 0 || tray > 3 || (wheel != -1 && !isWheel(wheel))) {
            return -1;
        }
        if (trays[tray] == null) {
            return -11;
        }
        if (i < 0 || i >= trays[tray].places.length) {
            return -12;
        }
        Wheel thing = wheel == -1 ? null : s.wheels.get(wheel);
        if (thing != null && LINEAGE[thing.kind].indexOf('0' + trays[tray].kind) < 0) {
            return -13;
        }
        trays[tray].places[i] = thing;
        return 1;
    }

    int laid(int tray, int i, int what) {
        if (tray < 0 || tray > 3 || what < 0 || what > 3) {
            return -1;
        }
        if (trays[tray] == null) {
            return -11;
        }
        if (i < 0 || i >= trays[tray].places.length) {
            return -12;
        }
        Wheel w = trays[tray].places[i];
        return w == null ? -5 : new int[] {w.kind, w.parts, w.step, w.start}[what];
    }

    int like(int tray, int other) {
        if (tray < 0 || tray > 3 || other < 0 || other > 3) {
            return -1;
        }
        if (trays[other] == null) {
            return -11;
        }
        Tray t = new Tray();
        t.kind = trays[other].kind;
        t.places = trays[other].places.clone();
        trays[tray] = t;
        return t.places.length;
    }

    int list(int list, int n) {
        if (list < 0 || list > 2) {
            return -1;
        }
        if (n > 40) {
            return -2;
        }
        if (n < -1) {
            return -14;
        }
        lists[list] = n == -1 ? null : new long[n];
        return 1;
    }

    int put(int list, int i, long v) {
        if (list < 0 || list > 2) {
            return -1;
        }
        if (lists[list] == null) {
            return -11;
        }
        if (i < 0 || i >= lists[list].length) {
            return -12;
        }
        lists[list][i] = v;
        return 1;
    }

    long get(int list, int i) {
        return list < 0 || list > 2 || lists[list] == null || i < 0 || i >= lists[list].length ? NO : lists[list][i];
    }

    int fill(int list, int m) {
        if (list < 0 || list > 2) {
            return -1;
        }
        if (!isMonth(m)) {
            return -2;
        }
        if (lists[list] == null) {
            return -11;
        }
        List<Integer> found = from(m, lists[list].length);
        for (int i = 0; i < found.size(); i++) {
            lists[list][i] = found.get(i);
        }
        return found.size();
    }

    int judge(int list, int m) {
        if (list < 0 || list > 2) {
            return -1;
        }
        if (!isMonth(m)) {
            return -2;
        }
        if (lists[list] == null) {
            return -11;
        }
        List<Integer> found = from(m, lists[list].length);
        int i = 0;
        while (i < lists[list].length && i < found.size() && lists[list][i] == found.get(i)) {
            i++;
        }
        return i == lists[list].length ? -5 : i;
    }

    int count(int what) {
        Map<Integer, Integer> counts = new HashMap<>();
        counts.put(0, s.wheels.size());
        counts.put(1, tape.length());
        counts.put(2, texts);
        counts.put(3, s.node);
        counts.put(4, s.apse);
        for (int i = 0; i < 6; i++) {
            counts.put(5 + i, s.rules[i]);
        }
        return counts.getOrDefault(what, -2);
    }

    int image() {
        image = s.copy();
        return image.wheels.size();
    }

    int undo() {
        if (image == null) {
            return -3;
        }
        s = image.copy();
        return s.wheels.size();
    }
}
