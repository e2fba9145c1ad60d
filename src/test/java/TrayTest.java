/** Promises 35 to 42: trays and lists. */
public final class TrayTest {
    private static final Check check = new Check("TrayTest");

    private static void due(String call, long got, long want) {
        check.due(call, got, want);
    }

    public static void main(String[] args) {
        promise35Tray();
        promise36Lay();
        promise36Kinds();
        promise37Laid();
        promise37Thing();
        promise38Like();
        promise39List();
        promise40And41PutGet();
        promise42Fill();
        promise43Judge();
        check.end();
    }

    private static EclipseWheel ofEachKind() {
        EclipseWheel x = new EclipseWheel();
        for (int kind = 0; kind < 5; kind++) {
            x.wheel(kind, 10 + kind, 20 + kind, kind);
        }
        return x;
    }

    private static void promise35Tray() {
        EclipseWheel x = ofEachKind();
        x.tray(0, 0, 12);
        for (int i = 0; i < 12; i++) {
            x.lay(0, i, i % 5);
        }
        x.tray(0, 0, 12);
        for (int i = 0; i < 12; i++) {
            due("35 all empty " + i, x.laid(0, i, 0), Check.NOT);
        }
        for (int tray = 0; tray < 4; tray++) {
            due("35 made " + tray, x.tray(tray, tray, 12 - tray), 1);
            due("35 empty " + tray, x.laid(tray, 11 - tray, 0), Check.NOT);
            due("35 outside " + tray, x.laid(tray, 12 - tray, 0), Check.OUTSIDE);
        }
        due("35 kind 4", x.tray(0, 4, 12), 1);
        due("35 none 4", x.tray(4, 0, 1), Check.NONE);
        due("35 none -1", x.tray(-1, 0, 1), Check.NONE);
        due("35 none ahead of bad", x.tray(4, 9, 99), Check.NONE);
        due("35 bad kind", x.tray(0, 5, 1), Check.BAD);
        due("35 bad kind below", x.tray(0, -2, 1), Check.BAD);
        due("35 bad kind ahead of size", x.tray(0, 5, -1), Check.BAD);
        due("35 bad n", x.tray(0, 0, 13), Check.BAD);
        due("35 size", x.tray(0, 0, -1), Check.SIZE);
        due("35 size far below", x.tray(0, 0, Integer.MIN_VALUE), Check.SIZE);
        due("35 as it was", x.laid(0, 11, 0), Check.NOT);
        x.lay(0, 0, 4);
        due("35 made anew", x.tray(0, 0, 3), 1);
        due("35 empty anew", x.laid(0, 0, 0), Check.NOT);
        due("35 none left", x.laid(0, 3, 0), Check.OUTSIDE);
        x.lay(0, 2, 1);
        due("35 no places", x.tray(0, 0, 0), 1);
        due("35 no places, all outside", x.laid(0, 0, 0), Check.OUTSIDE);
        x.tray(0, 0, 12);
        due("35 nothing comes back", x.laid(0, 2, 0), Check.NOT);
        due("35 missing", x.tray(0, -1, 5), 1);
        due("35 is missing", x.laid(0, 0, 0), Check.MISSING);
        due("35 missing, n does not matter", x.tray(1, -1, 99), 1);
        due("35 missing, n below does not matter", x.tray(2, -1, -99), 1);
        due("35 is missing, too", x.laid(1, 0, 0), Check.MISSING);
        due("35 the other one stands", x.laid(3, 0, 0), Check.NOT);
    }

    private static void promise36Lay() {
        EclipseWheel x = ofEachKind();
        x.tray(0, 0, 3);
        due("36 lay", x.lay(0, 0, 4), 1);
        due("36 lay at the last place", x.lay(0, 2, 0), 1);
        due("36 laid", x.laid(0, 0, 1), 14);
        due("36 laid at the last place", x.laid(0, 2, 1), 10);
        due("36 the same one twice", x.lay(0, 1, 4), 1);
        due("36 another one there", x.lay(0, 0, 3), 1);
        due("36 another one is there", x.laid(0, 0, 0), 3);
        due("36 nothing", x.lay(0, 0, -1), 1);
        due("36 nothing is there", x.laid(0, 0, 0), Check.NOT);
        due("36 nothing on nothing", x.lay(0, 0, -1), 1);
        due("36 none: tray", x.lay(4, 0, 0), Check.NONE);
        due("36 none: tray below", x.lay(-1, 0, 0), Check.NONE);
        due("36 none: wheel", x.lay(0, 0, 5), Check.NONE);
        due("36 none: wheel below", x.lay(0, 0, -2), Check.NONE);
        due("36 none ahead of missing", x.lay(1, 0, 5), Check.NONE);
        due("36 missing", x.lay(1, 0, 0), Check.MISSING);
        due("36 missing, nothing", x.lay(1, 0, -1), Check.MISSING);
        due("36 missing ahead of outside", x.lay(1, -1, 0), Check.MISSING);
        due("36 outside", x.lay(0, 3, 0), Check.OUTSIDE);
        due("36 outside below", x.lay(0, -1, 0), Check.OUTSIDE);
        due("36 outside, nothing", x.lay(0, 3, -1), Check.OUTSIDE);
        x.tray(2, 1, 1);
        due("36 outside ahead of kindless", x.lay(2, 1, 0), Check.OUTSIDE);
        due("36 kindless", x.lay(2, 0, 0), Check.KINDLESS);
        due("36 kindless changes nothing", x.laid(2, 0, 0), Check.NOT);
        x.lay(2, 0, 3);
        due("36 kindless again", x.lay(2, 0, 2), Check.KINDLESS);
        due("36 what was there stays", x.laid(2, 0, 0), 3);
    }

    private static void promise36Kinds() {
        EclipseWheel x = ofEachKind();
        int[][] taken = {{1, 1, 1, 1, 1}, {0, 1, 0, 1, 0}, {0, 0, 1, 0, 1}, {0, 0, 0, 1, 0}, {0, 0, 0, 0, 1}};
        for (int made = 0; made < 5; made++) {
            x.tray(3, made, 1);
            for (int kind = 0; kind < 5; kind++) {
                due("36 " + kind + " into " + made, x.lay(3, 0, kind), taken[made][kind] == 1 ? 1 : Check.KINDLESS);
            }
            due("36 nothing into " + made, x.lay(3, 0, -1), 1);
        }
    }

    private static void promise37Laid() {
        EclipseWheel x = ofEachKind();
        x.tray(1, 0, 12);
        x.lay(1, 11, 3);
        int[] want = {3, 13, 23, 3};
        for (int what = 0; what < 4; what++) {
            due("37 laid " + what, x.laid(1, 11, what), want[what]);
        }
        due("37 none: tray", x.laid(4, 0, 0), Check.NONE);
        due("37 none: tray below", x.laid(-1, 0, 0), Check.NONE);
        due("37 none: what", x.laid(1, 11, 4), Check.NONE);
        due("37 none: what below", x.laid(1, 11, -1), Check.NONE);
        due("37 none ahead of missing", x.laid(0, 0, 4), Check.NONE);
        due("37 none below ahead of missing", x.laid(0, 0, -1), Check.NONE);
        due("37 none ahead of not", x.laid(1, 10, 4), Check.NONE);
        due("37 none below ahead of not", x.laid(1, 10, -1), Check.NONE);
        due("37 missing", x.laid(0, 0, 0), Check.MISSING);
        due("37 missing ahead of outside", x.laid(0, 12, 0), Check.MISSING);
        due("37 outside", x.laid(1, 12, 0), Check.OUTSIDE);
        due("37 outside below", x.laid(1, -1, 0), Check.OUTSIDE);
        due("37 outside far off", x.laid(1, Integer.MIN_VALUE, 0), Check.OUTSIDE);
        due("37 not", x.laid(1, 10, 0), Check.NOT);
    }

    private static void promise37Thing() {
        EclipseWheel x = ofEachKind();
        x.tray(0, 0, 2);
        x.lay(0, 0, 4);
        x.turn(4, 77, 7);
        due("37 turned there, too", x.laid(0, 0, 2), 77);
        due("37 turned there, too: start", x.laid(0, 0, 3), 7);
        x.drop();
        due("37 stays when dropped", x.laid(0, 0, 2), 77);
        x.wheel(4, 99, 1, 1);
        due("37 a new one is another", x.laid(0, 0, 1), 14);
        x.turn(4, 2, 2);
        due("37 a new one's turn is not its own", x.laid(0, 0, 2), 77);
        x.lay(0, 1, 2);
        x.image();
        x.turn(2, 5, 5);
        due("37 an image leaves the thing in the list", x.laid(0, 1, 2), 5);
        x.undo();
        due("37 undo leaves what is laid", x.laid(0, 1, 2), 5);
        due("37 undo lays a copy", x.of(2, 2), 22);
        x.turn(2, 6, 6);
        due("37 what was laid is none of the list", x.laid(0, 1, 2), 5);
        x.lay(0, 1, 2);
        due("37 the copy laid", x.laid(0, 1, 2), 6);
        x.undo();
        due("37 the copy laid stays", x.laid(0, 1, 2), 6);
        due("37 the image is as it was", x.of(2, 2), 22);
    }

    private static void promise38Like() {
        EclipseWheel x = ofEachKind();
        x.tray(0, 1, 4);
        x.lay(0, 1, 3);
        x.tray(1, 0, 12);
        x.lay(1, 11, 0);
        due("38 like", x.like(1, 0), 4);
        due("38 the thing", x.laid(1, 1, 0), 3);
        due("38 as many places", x.laid(1, 4, 0), Check.OUTSIDE);
        due("38 the kind, too", x.lay(1, 0, 0), Check.KINDLESS);
        due("38 the kind under it", x.lay(1, 0, 1), 1);
        due("38 each of its own", x.laid(0, 0, 0), Check.NOT);
        x.lay(0, 1, -1);
        due("38 each of its own, the other way", x.laid(1, 1, 0), 3);
        x.turn(3, 9, 9);
        due("38 the thing itself", x.laid(1, 1, 2), 9);
        due("38 like itself", x.like(1, 1), 4);
        due("38 like itself stays", x.laid(1, 0, 0), 1);
        due("38 into a missing one", x.like(3, 1), 4);
        due("38 into a missing one's", x.laid(3, 0, 0), 1);
        x.tray(0, 2, 0);
        due("38 of no places", x.like(3, 0), 0);
        due("38 of no places: outside", x.laid(3, 0, 0), Check.OUTSIDE);
        due("38 none", x.like(4, 0), Check.NONE);
        due("38 none: other", x.like(0, 4), Check.NONE);
        due("38 none below", x.like(-1, 0), Check.NONE);
        due("38 none: other below", x.like(0, -1), Check.NONE);
        due("38 none ahead of missing", x.like(4, 2), Check.NONE);
        due("38 missing", x.like(1, 2), Check.MISSING);
        due("38 missing changes nothing", x.laid(1, 0, 0), 1);
        due("38 missing like itself", x.like(2, 2), Check.MISSING);
        x.tray(2, 0, 12);
        x.lay(2, 8, 0);
        x.like(2, 1);
        x.tray(3, 0, 12);
        due("38 nothing behind its places comes back", x.laid(2, 8, 0), Check.OUTSIDE);
    }

    private static void promise39List() {
        EclipseWheel x = new EclipseWheel();
        for (int list = 0; list < 3; list++) {
            due("39 made " + list, x.list(list, 40 - list), 1);
            due("39 all 0 " + list, x.get(list, 39 - list), 0);
            due("39 no more " + list, x.get(list, 40 - list), Check.NO);
        }
        due("39 none 3", x.list(3, 1), Check.NONE);
        due("39 none -1", x.list(-1, 1), Check.NONE);
        due("39 none ahead of bad", x.list(3, 41), Check.NONE);
        due("39 bad", x.list(0, 41), Check.BAD);
        due("39 bad far above", x.list(0, Integer.MAX_VALUE), Check.BAD);
        due("39 size", x.list(0, -2), Check.SIZE);
        due("39 size far below", x.list(0, Integer.MIN_VALUE), Check.SIZE);
        for (int i = 0; i < 40; i++) {
            x.put(0, i, 7);
        }
        due("39 as it was", x.get(0, 5), 7);
        due("39 anew", x.list(0, 40), 1);
        for (int i = 0; i < 40; i++) {
            due("39 anew all 0", x.get(0, i), 0);
        }
        x.put(0, 5, 8);
        x.list(0, 5);
        x.list(0, 6);
        due("39 nothing comes back", x.get(0, 5), 0);
        due("39 no items", x.list(0, 0), 1);
        due("39 no items' first", x.put(0, 0, 1), Check.OUTSIDE);
        due("39 missing", x.list(0, -1), 1);
        due("39 is missing", x.put(0, 0, 1), Check.MISSING);
        due("39 the other one stands", x.put(1, 0, 1), 1);
    }

    private static void promise40And41PutGet() {
        EclipseWheel x = new EclipseWheel();
        x.list(1, 40);
        x.list(2, 1);
        long[] values = {0, 1, -1, Long.MAX_VALUE, Long.MIN_VALUE, 1L << 40};
        for (int i = 0; i < values.length; i++) {
            due("40 put " + i, x.put(1, i, values[i]), 1);
        }
        for (int i = 0; i < values.length; i++) {
            due("41 get " + i, x.get(1, i), values[i]);
        }
        due("40 the last", x.put(1, 39, 5), 1);
        due("41 the last", x.get(1, 39), 5);
        due("41 each for itself", x.get(2, 0), 0);
        due("40 none", x.put(3, 0, 1), Check.NONE);
        due("40 none below", x.put(-1, 0, 1), Check.NONE);
        due("40 missing", x.put(0, 0, 1), Check.MISSING);
        due("40 missing ahead of outside", x.put(0, -1, 1), Check.MISSING);
        due("40 outside", x.put(2, 1, 1), Check.OUTSIDE);
        due("40 outside below", x.put(1, -1, 1), Check.OUTSIDE);
        due("40 outside the greatest", x.put(1, 40, 1), Check.OUTSIDE);
        due("41 no list", x.get(3, 0), Check.NO);
        due("41 no list below", x.get(-1, 0), Check.NO);
        due("41 missing", x.get(0, 0), Check.NO);
        due("41 missing below", x.get(0, -1), Check.NO);
        due("41 no place", x.get(2, 1), Check.NO);
        due("41 no place below", x.get(1, -1), Check.NO);
        due("41 no place far off", x.get(1, Integer.MAX_VALUE), Check.NO);
    }

    private static void promise42Fill() {
        EclipseWheel x = Check.small();
        x.list(0, 6);
        due("42 fill", x.fill(0, -1), 6);
        int[] want = {-1, 0, 1, 2, 3, 7};
        for (int i = 0; i < want.length; i++) {
            due("42 item " + i, x.get(0, i), want[i]);
        }
        x.list(1, 40);
        due("42 forty", x.fill(1, 0), 40);
        due("42 the fortieth", x.get(1, 39), 57);
        for (int i = 0; i < 40; i++) {
            x.put(1, i, 1000 + i);
        }
        due("42 three", x.fill(1, 99998), 3);
        due("42 the third", x.get(1, 2), 100000);
        due("42 the fourth stays", x.get(1, 3), 1003);
        x.list(2, 0);
        due("42 no items", x.fill(2, 0), 0);
        EclipseWheel wide = Check.each(1000);
        wide.list(0, 10);
        wide.put(0, 4, 77);
        due("42 4000 months", wide.fill(0, 0), 4);
        due("42 4000 months' last", wide.get(0, 3), 3000);
        due("42 beyond 4000 months", wide.get(0, 4), 77);
        due("42 4000 months from 1", wide.fill(0, 1), 4);
        due("42 4000 months from 1, the last", wide.get(0, 3), 4000);
        due("42 none", x.fill(3, 0), Check.NONE);
        due("42 none below", x.fill(-1, 0), Check.NONE);
        due("42 none ahead of bad", x.fill(3, 100001), Check.NONE);
        due("42 bad", x.fill(0, 100001), Check.BAD);
        due("42 bad below", x.fill(0, -100001), Check.BAD);
        EclipseWheel none = new EclipseWheel();
        due("42 bad ahead of missing", none.fill(0, 100001), Check.BAD);
        due("42 missing", none.fill(0, 0), Check.MISSING);
        none.list(0, 5);
        due("42 without wheels", none.fill(0, 0), 0);
    }

    private static void promise43Judge() {
        EclipseWheel x = Check.small();
        x.list(0, 6);
        due("43 0 is one", x.judge(0, 0), 1);
        due("43 the first", x.judge(0, 1), 0);
        x.fill(0, -1);
        due("43 all", x.judge(0, -1), Check.NOT);
        due("43 from elsewhere", x.judge(0, 0), 0);
        for (int i = 0; i < 6; i++) {
            long was = x.get(0, i);
            x.put(0, i, was + (1L << 32));
            due("43 item " + i, x.judge(0, -1), i);
            x.put(0, i, was);
        }
        x.put(0, 2, 9);
        x.put(0, 4, 9);
        due("43 the first of two", x.judge(0, -1), 2);
        x.list(1, 4);
        x.fill(1, 99998);
        due("43 beyond all", x.judge(1, 99998), 3);
        x.list(1, 3);
        x.fill(1, 99998);
        due("43 as many as there are", x.judge(1, 99998), Check.NOT);
        x.list(2, 0);
        due("43 no items", x.judge(2, 0), Check.NOT);
        due("43 none", x.judge(3, 0), Check.NONE);
        due("43 none below", x.judge(-1, 0), Check.NONE);
        due("43 none ahead of bad", x.judge(3, 100001), Check.NONE);
        due("43 bad", x.judge(0, 100001), Check.BAD);
        due("43 bad below", x.judge(0, -100001), Check.BAD);
        EclipseWheel none = new EclipseWheel();
        due("43 bad ahead of missing", none.judge(0, 100001), Check.BAD);
        due("43 missing", none.judge(0, 0), Check.MISSING);
        none.list(0, 5);
        due("43 without wheels", none.judge(0, 0), 0);
        none.list(0, 0);
        due("43 without wheels and items", none.judge(0, 0), Check.NOT);
    }
}
