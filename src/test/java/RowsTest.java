/** Promises 34 to 41. */
public final class RowsTest {
    private static final long NO = TrackChamber.NO;

    public static void main(String[] args) {
        listSetGet();
        into();
        judge();
        undo();
        undoBringsAll();
        imageAndBack();
        Check.end();
    }

    private static void listSetGet() {
        TrackChamber x = new TrackChamber();
        Check.due("set, NOTHING", x.set(0, 0, 1), -11);
        Check.due("set, NOTHING ahead of BEYOND", x.set(0, -1, 1), -11);
        Check.due("list(3, ..)", x.list(3, 1), -1);
        Check.due("list(-1, ..)", x.list(-1, 1), -1);
        Check.due("list(0, 25)", x.list(0, 25), -1);
        Check.due("list(0, -1)", x.list(0, -1), -14);
        Check.due("list BAD ahead of BELOW", x.list(3, -1), -1);
        Check.due("list least", x.list(2, Integer.MIN_VALUE), -14);
        Check.due("list refused, NOTHING still", x.set(0, 0, 1), -11);
        Check.due("list(0, 24)", x.list(0, 24), 1);
        Check.due("list(1, 0)", x.list(1, 0), 1);
        Check.due("set in a row of none", x.set(1, 0, 1), -13);
        Check.due("get in a row of none", x.get(1, 0), NO);
        for (int i = 0; i < 24; i++) {
            Check.due("get 0", x.get(0, i), 0);
            Check.due("set", x.set(0, i, Long.MAX_VALUE - i), 1);
        }
        Check.due("set(0, 24)", x.set(0, 24, 1), -13);
        Check.due("set(0, -1)", x.set(0, -1, 1), -13);
        Check.due("set(3, 0)", x.set(3, 0, 1), -1);
        Check.due("set(-1, 0)", x.set(-1, 0, 1), -1);
        for (int i = 0; i < 24; i++) {
            Check.due("get " + i, x.get(0, i), Long.MAX_VALUE - i);
        }
        Check.due("get(0, 24)", x.get(0, 24), NO);
        Check.due("get(0, -1)", x.get(0, -1), NO);
        Check.due("get(2, 0)", x.get(2, 0), NO);
        Check.due("get(3, 0)", x.get(3, 0), NO);
        Check.due("get(-1, 0)", x.get(-1, 0), NO);
        Check.due("list anew", x.list(0, 5), 1);
        Check.due("list longer again", x.list(0, 24), 1);
        for (int i = 0; i < 24; i++) {
            Check.due("get 0 again", x.get(0, i), 0);
        }
        Check.due("LISTS are no CHANGES", x.count(4), 0);
    }

    /** VERTEX 0: IN 2 with (-3/2, 9/2), OUT 0 (0, -6), 1 (6, -6); 1: OUT 3, STRAIGHT; 2: none IN, OUT 0. */
    private static TrackChamber some() {
        TrackChamber x = new TrackChamber();
        x.track(0, 0, 2, -2, 4, 0);
        x.track(0, 0, 4, 0, 4, 4);
        x.track(0, 0, 1, 2, 3, 1);
        x.track(0, 0, 1, 1, 2, 2);
        x.vertex(0, 0, 2, 3);
        x.vertex(0, 0, -1, 8);
        x.vertex(0, 0, -1, 1);
        return x;
    }

    private static final long[] TOLD = {-3, 2, 9, 2, 0, 1, -6, 1, 6, 1, -6, 1};

    private static void into() {
        TrackChamber x = some();
        Check.due("into, NOTHING", x.into(0, 0, 0), -11);
        Check.due("into, NOTHING ahead of BEYOND", x.into(0, 0, -1), -11);
        Check.due("into, NOTHING ahead of NOT", x.into(1, 0, 0), -11);
        x.list(0, 24);
        Check.due("into", x.into(0, 0, 5), 12);
        for (int i = 0; i < 24; i++) {
            Check.due("into, place " + i, x.get(0, i), i >= 5 && i < 17 ? TOLD[i - 5] : 0);
        }
        x.list(0, 9);
        Check.due("into, ends within", x.into(0, 0, 3), 6);
        Check.due("into, last", x.get(0, 8), 1);
        Check.due("into at the end", x.into(0, 0, 9), 0);
        Check.due("into far behind", x.into(0, 0, Integer.MAX_VALUE), 0);
        Check.due("into last place", x.into(0, 0, 8), 1);
        Check.due("into last place is", x.get(0, 8), -3);
        Check.due("into, none IN", x.into(2, 0, 0), 4);
        Check.due("into, none IN, is", x.get(0, 2), -6);
        Check.due("into p -1", x.into(0, 0, -1), -13);
        Check.due("into, no BALANCE", x.into(1, 0, 0), -2);
        Check.due("into, BEYOND ahead of NOT", x.into(1, 0, -1), -13);
        Check.due("into, NOT also behind the end", x.into(1, 0, 20), -2);
        Check.due("into vertex 3", x.into(3, 0, 0), -1);
        Check.due("into vertex -1", x.into(-1, 0, 0), -1);
        Check.due("into list 3", x.into(0, 3, 0), -1);
        Check.due("into list -1", x.into(0, -1, 0), -1);
        x.list(1, 0);
        Check.due("into a row of none", x.into(0, 1, 0), 0);
    }

    private static void judge() {
        TrackChamber x = some();
        Check.due("judge, NOTHING", x.judge(0, 0, 0), -11);
        Check.due("judge p -1 ahead of NOTHING", x.judge(0, 0, -1), -1);
        Check.due("judge, NOTHING ahead of STATE", x.judge(1, 0, 0), -11);
        x.list(0, 24);
        x.into(0, 0, 7);
        Check.due("judge, all so", x.judge(0, 0, 7), -2);
        for (int i = 0; i < 12; i++) {
            x.set(0, 7 + i, TOLD[i] + 1);
            Check.due("judge, number " + i, x.judge(0, 0, 7), i / 4);
            x.set(0, 7 + i, TOLD[i]);
        }
        x.set(0, 8, 4);
        x.set(0, 17, 4);
        Check.due("judge, the first", x.judge(0, 0, 7), 0);
        x.set(0, 19, 5);
        x.set(0, 8, 2);
        Check.due("judge, the second", x.judge(0, 0, 7), 2);
        for (int n = 0; n < 12; n++) {
            x.list(1, n);
            x.into(0, 1, 0);
            Check.due("judge, ends at " + n, x.judge(0, 1, 0), 100 + n / 4);
            if (n > 0) {
                x.set(1, n - 1, 77);
                Check.due("judge, otherwise at " + n, x.judge(0, 1, 0), (n - 1) / 4);
            }
        }
        Check.due("judge at the end", x.judge(0, 0, 24), 100);
        Check.due("judge far behind", x.judge(0, 0, Integer.MAX_VALUE), 100);
        Check.due("judge, no BALANCE", x.judge(1, 0, 0), -5);
        Check.due("judge, no BALANCE behind the end", x.judge(1, 0, 30), -5);
        Check.due("judge vertex 3", x.judge(3, 0, 0), -1);
        Check.due("judge vertex -1", x.judge(-1, 0, 0), -1);
        Check.due("judge list 3", x.judge(0, 3, 0), -1);
        Check.due("judge list -1", x.judge(0, -1, 0), -1);
        Check.due("judge p -1", x.judge(0, 0, -1), -1);
        // Another FIELD, other PUSHES.
        x.list(2, 12);
        x.into(0, 2, 0);
        Check.due("judge, all so again", x.judge(0, 2, 0), -2);
        x.field(4);
        Check.due("judge by another FIELD", x.judge(0, 2, 0), 0);
    }

    private static void undo() {
        TrackChamber x = new TrackChamber();
        Check.due("undo, none", x.undo(), -2);
        x.field(5);
        x.track(0, 0, 2, -2, 4, 0);
        x.kind(0, 7);
        x.kind(0, 4);
        x.vertex(0, 0, -1, 1);
        x.drop();
        x.wipe();
        x.track(0, 0, 0, 1, 5, 5);
        Check.due("undo track", x.undo(), 7);
        Check.due("undo track: TRACKS", x.count(1), 0);
        Check.due("undo wipe", x.undo(), 6);
        Check.due("undo wipe: the TRACK", x.trackOf(0, 2), 2);
        Check.due("undo wipe: its KIND", x.trackOf(0, 7), 4);
        Check.due("undo drop", x.undo(), 5);
        Check.due("undo drop: OUT", x.vertexOf(0, 3), 1);
        Check.due("undo drop: IN", x.vertexOf(0, 2), 8);
        Check.due("undo vertex", x.undo(), 4);
        Check.due("undo vertex: VERTICES", x.count(2), 0);
        Check.due("undo kind", x.undo(), 3);
        Check.due("undo kind: KIND", x.trackOf(0, 7), 7);
        Check.due("undo kind again", x.undo(), 2);
        Check.due("undo kind again: KIND", x.trackOf(0, 7), 12);
        Check.due("undo first track", x.undo(), 1);
        Check.due("undo field", x.undo(), 0);
        Check.due("undo field: FIELD", x.count(0), 3);
        Check.due("undo no more", x.undo(), -2);
        for (int i = 0; i < 20; i++) {
            x.field(i % 9 + 1);
            x.field(0);
            x.wipe();
        }
        for (int i = 7; i >= 0; i--) {
            Check.due("undo of 20", x.undo(), i);
            Check.due("undo of 20: FIELD", x.count(0), (i + 11) % 9 + 1);
        }
        Check.due("undo of 20, no more", x.undo(), -2);
        x.list(0, 3);
        x.feed('f');
        x.field(3);
        x.set(0, 1, 9);
        x.feed('1');
        x.undo();
        Check.due("undo leaves LISTS", x.get(0, 1), 9);
        Check.due("undo leaves THE TAPE", x.count(5), 2);
    }

    /** All of a VERTEX and of a TRACK comes again, also where another has stood in its place since. */
    private static void undoBringsAll() {
        TrackChamber x = new TrackChamber();
        x.track(0, 0, 2, -2, 4, 0);
        x.track(0, 0, 2, 2, 4, 0);
        x.vertex(4, 0, 1, 1);
        x.image();
        for (int way = 0; way < 2; way++) {
            x.drop();
            x.wipe();
            x.track(9, 9, 8, 8, 2, -2);
            x.kind(0, 0);
            x.vertex(2, -2, -1, 3);
            for (int i = 0; way == 0 && i < 5; i++) {
                x.undo();
            }
            if (way == 1) {
                x.back();
            }
            int[] vertex = {24, 20, 1, 1};
            int[] track = {0, 0, 2, 2, 4, 0, 0, 12};
            for (int what = 0; what < 4; what++) {
                Check.due("way " + way + ": vertexOf(0, " + what + ")", x.vertexOf(0, what), vertex[what]);
            }
            for (int what = 0; what < 8; what++) {
                Check.due("way " + way + ": trackOf(1, " + what + ")", x.trackOf(1, what), track[what]);
            }
            Check.due("way " + way + ": KIND of 0", x.trackOf(0, 7), 12);
        }
        TrackChamber y = new TrackChamber();
        y.track(0, 0, 2, -2, 4, 0);
        for (int i = 0; i < 12; i++) {
            y.field(i % 9 + 1);
        }
        y.kind(0, 7);
        y.undo();
        Check.due("undo kind, behind many: KIND", y.trackOf(0, 7), 12);
        Check.due("undo kind, behind many: FIELD", y.count(0), 3);
    }

    private static void imageAndBack() {
        TrackChamber x = new TrackChamber();
        x.field(5);
        Check.due("back, none", x.back(), -5);
        Check.due("back refused leaves CHANGES", x.count(4), 1);
        Check.due("image of none", x.image(), 0);
        x.track(0, 0, 2, -2, 4, 0);
        x.track(0, 0, 2, 2, 4, 0);
        x.kind(1, 8);
        x.vertex(0, 0, 1, 1);
        Check.due("image", x.image(), 2);
        Check.due("image is no CHANGE", x.count(4), 5);
        x.drop();
        x.kind(1, 2);
        x.wipe();
        x.field(1);
        x.list(0, 2);
        x.feed('f');
        Check.due("back", x.back(), 2);
        Check.due("back: FIELD", x.count(0), 5);
        Check.due("back: KIND", x.trackOf(1, 7), 8);
        Check.due("back: VERTEX's IN", x.vertexOf(0, 2), 1);
        Check.due("back: no CHANGES", x.count(4), 0);
        Check.due("back: undo", x.undo(), -2);
        Check.due("back leaves THE TAPE", x.count(5), 1);
        Check.due("back leaves LISTS", x.get(0, 1), 0);
        x.drop();
        x.wipe();
        x.wipe();
        Check.due("back once more", x.back(), 2);
        Check.due("back once more: VERTICES", x.count(2), 1);
        x.kind(0, 0);
        x.back();
        Check.due("THE IMAGE is its own", x.trackOf(0, 7), 12);
    }
}
