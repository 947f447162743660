import java.util.List;
import java.util.function.ToIntFunction;

/** Boundary cases of promises 34 to 41. */
final class RowsEdges {
    private static final long NO = TrackChamber.NO;
    private static final int P = Chambers.P, N = Chambers.N, B = Chambers.B, K = Chambers.K, A = Chambers.A;

    private RowsEdges() {
    }

    static void run() {
        Edge.of(34, "A LIST becomes a row of n longs, all 0: 1.", RowsEdges::listAllZero);
        Edge.of(34, "a row of 0 .. 24 longs (0 at first).", RowsEdges::listLeastAndGreatest);
        Edge.of(34, "LISTS 0 .. 2 hold nothing (at first)", RowsEdges::listNothingAtFirst);
        Edge.of(34, "BAD: list, n above 24;", RowsEdges::listBeyond);
        Edge.of(34, "BELOW.", RowsEdges::listBelow);
        Edge.of(35, "Place i of a LIST becomes v: 1.", RowsEdges::setAnyLong);
        Edge.of(35, "BAD;", RowsEdges::setBeyondLists);
        Edge.of(35, "NOTHING;", RowsEdges::setNothing);
        Edge.of(35, "BEYOND.", RowsEdges::setBeyond);
        Edge.of(36, "Place i of a LIST. NO: no such LIST,", RowsEdges::getNoList);
        Edge.of(36, "nothing there,", RowsEdges::getNothing);
        Edge.of(36, "no such place.", RowsEdges::getNoPlace);
        ofInto();
        ofJudge();
        ofUndo();
        Edge.of(40, "THE IMAGE is kept: how many TRACKS.", RowsEdges::imageNoneAndAll);
        Edge.of(40, "THE IMAGE keeps FIELD, TRACKS with KINDS, VERTICES.", RowsEdges::imageKeeps);
        Edge.of(41, "It is laid back: how many TRACKS.", RowsEdges::backNoneAndAll);
        Edge.of(41, "FIELD, TRACKS with KINDS, VERTICES.", RowsEdges::backAll);
        Edge.of(41, "behind back(), there are none.", RowsEdges::backNoChanges);
        Edge.of(41, "undo(), back() change neither THE TAPE, THE PAPER nor LISTS.", RowsEdges::backLeavesTheRest);
        Edge.of(41, "STATE: there is none.", RowsEdges::backNone);
    }

    private static void ofInto() {
        Edge.of(37, "(the one IN, then those OUT by numbers)", RowsEdges::intoInFirst);
        Edge.of(37, "each four numbers (along x above, below, along y above, below),", RowsEdges::intoFourNumbers);
        Edge.of(37, "come into a LIST from place p on, until either ends: how many numbers", RowsEdges::intoEitherEnds);
        Edge.of(37, "(0, if p is at or behind its end).", RowsEdges::intoAtItsEnd);
        Edge.of(37, "into() may end within a TRACK's four numbers;", RowsEdges::intoEndsWithin);
        Edge.of(37, "BAD: vertex, list;", RowsEdges::intoBad);
        Edge.of(37, "NOTHING;", RowsEdges::intoNothing);
        Edge.of(37, "BEYOND: p is below 0;", RowsEdges::intoBelow);
        Edge.of(37, "NOT: there is no BALANCE.", RowsEdges::intoNoBalance);
    }

    private static void ofJudge() {
        Edge.of(38, "the first of these TRACKS (0, 1, .. as they stand there) of which a number is otherwise;",
            RowsEdges::judgeFirst);
        Edge.of(38, "judge(): a number otherwise within them tells that TRACK.", RowsEdges::judgeWithin);
        Edge.of(38, "NOT: all are so;", RowsEdges::judgeAllSo);
        Edge.of(38, "100 and how many TRACKS were told whole: it ends ahead of that.", RowsEdges::judgeEnds);
        Edge.of(38, "BAD: vertex, list, p below 0;", RowsEdges::judgeBad);
        Edge.of(38, "NOTHING;", RowsEdges::judgeNothing);
        Edge.of(38, "STATE: there is no BALANCE.", RowsEdges::judgeNoBalance);
    }

    private static void ofUndo() {
        Edge.of(39, "The latest CHANGE is UNDONE: how many still can be.", RowsEdges::undoHowMany);
        Edge.of(39, "NOT: none.", RowsEdges::undoNone);
        Edge.of(39, "CHANGES: each field(), track(), kind(), vertex(), drop(), wipe(), calls() that is not refused",
            RowsEdges::undoEach);
        Edge.of(39, "can be UNDONE,", RowsEdges::undoAll);
        Edge.of(39, "(also if all stays as it was)", RowsEdges::undoAsItWas);
        Edge.of(39, "the latest 8 can be UNDONE, the latest first;", RowsEdges::undoEight);
        Edge.of(39, "behind a reads() that brings something,", RowsEdges::undoBehindReads);
        Edge.of(39, "behind back(), there are none.", RowsEdges::undoBehindBack);
        Edge.of(39, "undo(), back() change neither THE TAPE, THE PAPER nor LISTS.", RowsEdges::undoLeavesTheRest);
    }

    private static void listAllZero() {
        TrackChamber x = new TrackChamber();
        for (int list = 0; list < 3; list++) {
            Check.due("list(" + list + ", 24)", x.list(list, 24), 1);
            for (int i = 0; i < 24; i++) {
                Check.due("get(" + list + ", " + i + ")", x.get(list, i), 0);
                x.set(list, i, -1 - i);
            }
        }
        Check.due("list(1, 3), shorter", x.list(1, 3), 1);
        Check.due("list(1, 24), as long again", x.list(1, 24), 1);
        for (int i = 0; i < 24; i++) {
            Check.due("get(1, " + i + ") again", x.get(1, i), 0);
            Check.due("get(0, " + i + ") stays", x.get(0, i), -1 - i);
            Check.due("get(2, " + i + ") stays", x.get(2, i), -1 - i);
        }
    }

    private static void listLeastAndGreatest() {
        TrackChamber x = new TrackChamber();
        Check.due("list(0, 0)", x.list(0, 0), 1);
        Check.due("no place 0", x.get(0, 0), NO);
        Check.due("no place 0 to set", x.set(0, 0, 1), -13);
        Check.due("list(2, 24)", x.list(2, 24), 1);
        Check.due("place 23", x.set(2, 23, 5), 1);
        Check.due("no place 24", x.set(2, 24, 5), -13);
        Check.due("list(1, 1)", x.list(1, 1), 1);
        Check.due("place 0", x.get(1, 0), 0);
        Check.due("no place 1", x.get(1, 1), NO);
    }

    private static void listNothingAtFirst() {
        TrackChamber x = some();
        for (int list = 0; list < 3; list++) {
            Check.due("get(" + list + ", 0)", x.get(list, 0), NO);
            Check.due("set(" + list + ", 0, 1)", x.set(list, 0, 1), -11);
            Check.due("into(0, " + list + ", 0)", x.into(0, list, 0), -11);
            Check.due("judge(0, " + list + ", 0)", x.judge(0, list, 0), -11);
        }
        for (int list = 2; list >= 0; list--) {
            Check.due("list(" + list + ", 1)", x.list(list, 1), 1);
            Check.due("get(" + list + ", 0), then", x.get(list, 0), 0);
            Check.due("the others, nothing still", list == 0 ? -11 : x.set(list - 1, 0, 1), -11);
        }
    }

    private static void listBeyond() {
        TrackChamber x = new TrackChamber();
        x.list(0, 2);
        x.set(0, 1, 6);
        for (int list : new int[] {-1, 3}) {
            Check.due("list(" + list + ", 1)", x.list(list, 1), -1);
        }
        Check.due("list(0, 25)", x.list(0, 25), -1);
        for (int far : Chambers.FAR) {
            Check.due("list(" + far + ", 1)", x.list(far, 1), -1);
            Check.due("list(0, " + far + ")", x.list(0, far), far < 0 ? -14 : -1);
        }
        Check.due("the row stays", x.get(0, 1), 6);
        Check.due("list(1, 25)", x.list(1, 25), -1);
        Check.due("LIST 1 holds nothing still", x.set(1, 0, 1), -11);
    }

    private static void listBelow() {
        TrackChamber x = new TrackChamber();
        Check.due("list(0, -1)", x.list(0, -1), -14);
        Check.due("list(2, least)", x.list(2, Integer.MIN_VALUE), -14);
        Check.due("LIST 0 holds nothing still", x.set(0, 0, 1), -11);
        x.list(0, 2);
        x.set(0, 1, 6);
        Check.due("list(0, -1) again", x.list(0, -1), -14);
        Check.due("the row stays", x.get(0, 1), 6);
    }

    private static void setAnyLong() {
        TrackChamber x = new TrackChamber();
        x.list(0, 24);
        long[] values = {Long.MIN_VALUE, Long.MAX_VALUE, -1, 1L << 32, 0};
        for (int i : new int[] {0, 23}) {
            for (long v : values) {
                Check.due("set(0, " + i + ", " + v + ")", x.set(0, i, v), 1);
                Check.due("get(0, " + i + ")", x.get(0, i), v);
            }
        }
        x.set(0, 5, 7);
        Check.due("the place ahead", x.get(0, 4), 0);
        Check.due("the place behind", x.get(0, 6), 0);
    }

    private static void setBeyondLists() {
        TrackChamber x = new TrackChamber();
        for (int list : new int[] {-1, 3}) {
            Check.due("set(" + list + ", 0, 1)", x.set(list, 0, 1), -1);
        }
        for (int list : Chambers.FAR) {
            Check.due("set(" + list + ", 0, 1)", x.set(list, 0, 1), -1);
        }
    }

    private static void setNothing() {
        TrackChamber x = new TrackChamber();
        for (int list = 0; list < 3; list++) {
            Check.due("set(" + list + ", 0, 1)", x.set(list, 0, 1), -11);
        }
        x.list(1, 0);
        Check.due("a row of 0 is not nothing", x.set(1, 0, 1), -13);
        Check.due("LIST 2 still", x.set(2, 0, 1), -11);
    }

    private static void setBeyond() {
        TrackChamber x = new TrackChamber();
        x.list(0, 24);
        x.list(1, 3);
        Check.due("set(0, -1, 1)", x.set(0, -1, 1), -13);
        Check.due("set(0, 24, 1)", x.set(0, 24, 1), -13);
        Check.due("set(1, 3, 1)", x.set(1, 3, 1), -13);
        Check.due("set(1, 2, 1)", x.set(1, 2, 1), 1);
        for (int far : Chambers.FAR) {
            Check.due("set(0, " + far + ", 1)", x.set(0, far, 1), -13);
        }
        x.list(1, 24);
        x.list(1, 3);
        Check.due("set(1, 3, 1), where it was longer", x.set(1, 3, 1), -13);
    }

    private static void getNoList() {
        TrackChamber x = new TrackChamber();
        for (int list = 0; list < 3; list++) {
            x.list(list, 1);
        }
        Check.due("get(-1, 0)", x.get(-1, 0), NO);
        Check.due("get(3, 0)", x.get(3, 0), NO);
        for (int far : Chambers.FAR) {
            Check.due("get(" + far + ", 0)", x.get(far, 0), NO);
        }
    }

    private static void getNothing() {
        TrackChamber x = new TrackChamber();
        for (int list = 0; list < 3; list++) {
            Check.due("get(" + list + ", 0)", x.get(list, 0), NO);
        }
        x.list(0, 25);
        Check.due("get(0, 0) behind a refused list()", x.get(0, 0), NO);
    }

    private static void getNoPlace() {
        TrackChamber x = new TrackChamber();
        x.list(0, 24);
        x.list(1, 2);
        Check.due("get(0, 23)", x.get(0, 23), 0);
        Check.due("get(0, 24)", x.get(0, 24), NO);
        Check.due("get(0, -1)", x.get(0, -1), NO);
        Check.due("get(1, 1)", x.get(1, 1), 0);
        Check.due("get(1, 2)", x.get(1, 2), NO);
        for (int far : Chambers.FAR) {
            Check.due("get(0, " + far + ")", x.get(0, far), NO);
        }
    }

    /** VERTEX 0: IN 2 with (-3/2, 9/2), OUT 0 (0, -6), 1 (6, -6); 1: OUT 3, STRAIGHT; 2: none IN, OUT 0; 3: IN 3. */
    private static TrackChamber some() {
        TrackChamber x = new TrackChamber();
        Chambers.under(x, 2);
        Chambers.square(x, 2);
        x.track(0, 0, 1, 2, 3, 1);
        Chambers.line(x);
        x.vertex(0, 0, 2, 3);
        x.vertex(0, 0, -1, 8);
        x.vertex(0, 0, -1, 1);
        x.vertex(0, 0, 3, 1);
        return x;
    }

    private static final long[] TOLD = {-3, 2, 9, 2, 0, 1, -6, 1, 6, 1, -6, 1};

    private static void holdsRow(TrackChamber x, int list, int from, long[] due) {
        for (int i = 0; i < due.length; i++) {
            Check.due("place " + (from + i), x.get(list, from + i), due[i]);
        }
    }

    private static void intoInFirst() {
        TrackChamber x = some();
        x.list(0, 24);
        Check.due("the one IN has the greatest number", x.into(0, 0, 0), 12);
        holdsRow(x, 0, 0, TOLD);
        Check.due("none IN", x.into(2, 0, 12), 4);
        holdsRow(x, 0, 12, new long[] {0, 1, -6, 1, 0});
        TrackChamber y = new TrackChamber();
        for (int r = 1; r <= 8; r++) {
            Chambers.under(y, r);
        }
        y.vertex(0, 0, 4, 1 + 8 + 128);
        y.list(2, 24);
        Check.due("one IN, three OUT", y.into(0, 2, 0), 16);
        holdsRow(y, 2, 0, new long[] {0, 1, -15, 1, 0, 1, -3, 1, 0, 1, -12, 1, 0, 1, -24, 1, 0});
    }

    private static void intoFourNumbers() {
        TrackChamber x = new TrackChamber();
        x.field(9);
        x.track(-20, -20, -1, -2, 19, 17);
        x.track(0, 0, 1, 1, -1, 2);
        x.track(-1, 2, 1, 1, 0, 0);
        x.vertex(-20, -20, -1, 1);
        x.vertex(0, 0, 2, 2);
        x.list(0, 12);
        Check.due("the greatest", x.into(0, 0, 0), 4);
        Check.due("in lowest terms, and below 0", x.into(1, 0, 4), 8);
        holdsRow(x, 0, 0, new long[] {253755, 2, 240075, 2, -21, 2, -3, 2, 21, 2, 3, 2});
        // CENTRE (1/2, 1): along x and y over unlike numbers.
        TrackChamber y = new TrackChamber();
        y.track(0, 0, 1, 0, 0, 2);
        y.vertex(0, 0, -1, 1);
        y.list(0, 4);
        Check.due("unlike numbers below", y.into(0, 0, 0), 4);
        holdsRow(y, 0, 0, new long[] {3, 1, -3, 2});
        Check.due("judge()", y.judge(0, 0, 0), -2);
    }

    private static void intoEitherEnds() {
        TrackChamber x = some();
        x.list(0, 24);
        for (int i = 0; i < 24; i++) {
            x.set(0, i, 1000 + i);
        }
        Check.due("the PUSHES end first", x.into(0, 0, 5), 12);
        holdsRow(x, 0, 5, TOLD);
        Check.due("the place ahead of p", x.get(0, 4), 1004);
        Check.due("the place behind them", x.get(0, 17), 1017);
        Check.due("both end together", x.into(0, 0, 12), 12);
        Check.due("the LIST ends first", x.into(0, 0, 13), 11);
        Check.due("the last place", x.get(0, 23), -6);
        x.list(1, 12);
        Check.due("a row as long as they are", x.into(0, 1, 0), 12);
        holdsRow(x, 1, 0, TOLD);
    }

    private static void intoAtItsEnd() {
        TrackChamber x = some();
        x.list(0, 9);
        x.list(1, 0);
        x.list(2, 24);
        Check.due("at its end", x.into(0, 0, 9), 0);
        Check.due("one behind its end", x.into(0, 0, 10), 0);
        Check.due("ahead of its end", x.into(0, 0, 8), 1);
        Check.due("a row of 0", x.into(0, 1, 0), 0);
        Check.due("the longest row's end", x.into(0, 2, 24), 0);
        for (int far : Chambers.FAR) {
            if (far > 0) {
                Check.due("p " + far, x.into(0, 2, far), 0);
            }
        }
        for (int p = Integer.MAX_VALUE; p > Integer.MAX_VALUE - 20; p--) {
            Check.due("p " + p, x.into(0, 2, p), 0);
        }
        holdsRow(x, 2, 0, new long[24]);
    }

    private static void intoEndsWithin() {
        TrackChamber x = some();
        for (int n = 0; n <= 13; n++) {
            x.list(0, n);
            Check.due("a row of " + n, x.into(0, 0, 0), Math.min(n, 12));
            for (int i = 0; i < Math.min(n, 12); i++) {
                Check.due("a row of " + n + ", place " + i, x.get(0, i), TOLD[i]);
            }
        }
    }

    private static void intoBad() {
        TrackChamber none = new TrackChamber();
        none.list(0, 4);
        Check.due("no VERTICES", none.into(0, 0, 0), -1);
        TrackChamber x = some();
        x.drop();
        x.list(0, 24);
        for (int vertex : new int[] {-1, 3}) {
            Check.due("vertex " + vertex, x.into(vertex, 0, 0), -1);
        }
        for (int list : new int[] {-1, 3}) {
            Check.due("list " + list, x.into(0, list, 0), -1);
        }
        for (int far : Chambers.FAR) {
            Check.due("vertex " + far, x.into(far, 0, 0), -1);
            Check.due("list " + far, x.into(0, far, 0), -1);
        }
        holdsRow(x, 0, 0, new long[24]);
    }

    private static void intoNothing() {
        TrackChamber x = some();
        for (int list = 0; list < 3; list++) {
            Check.due("list " + list, x.into(0, list, 0), -11);
            Check.due("list " + list + ", p far", x.into(0, list, 100), -11);
        }
        x.list(0, 0);
        Check.due("a row of 0 is not nothing", x.into(0, 0, 0), 0);
    }

    private static void intoBelow() {
        TrackChamber x = some();
        x.list(0, 24);
        Check.due("p -1", x.into(0, 0, -1), -13);
        Check.due("p -12", x.into(0, 0, -12), -13);
        Check.due("p least", x.into(0, 0, Integer.MIN_VALUE), -13);
        holdsRow(x, 0, 0, new long[24]);
        Check.due("p 0", x.into(0, 0, 0), 12);
    }

    private static void intoNoBalance() {
        TrackChamber x = some();
        x.list(0, 24);
        Check.due("the only one OUT is STRAIGHT", x.into(1, 0, 0), -2);
        Check.due("the one IN is STRAIGHT", x.into(3, 0, 0), -2);
        x.drop();
        x.vertex(0, 0, 0, 2 + 8);
        Check.due("the last one OUT is STRAIGHT", x.into(3, 0, 0), -2);
        holdsRow(x, 0, 0, new long[24]);
    }

    private static void judgeFirst() {
        TrackChamber x = some();
        x.list(0, 12);
        x.into(0, 0, 0);
        for (int track = 2; track >= 0; track--) {
            x.set(0, 4 * track, 99);
            Check.due("from TRACK " + track + " on all are otherwise", x.judge(0, 0, 0), track);
        }
        TrackChamber y = new TrackChamber();
        for (int r = 1; r <= 8; r++) {
            Chambers.under(y, r);
        }
        y.vertex(0, 0, 7, 16 + 32 + 64);
        y.list(0, 16);
        y.into(0, 0, 0);
        y.set(0, 14, 0);
        Check.due("as they stand there, not by their numbers", y.judge(0, 0, 0), 3);
        y.set(0, 2, 0);
        Check.due("the one IN, TRACK 7", y.judge(0, 0, 0), 0);
    }

    private static void judgeWithin() {
        TrackChamber x = some();
        x.list(0, 24);
        x.into(0, 0, 7);
        for (int i = 0; i < 12; i++) {
            for (long v : new long[] {TOLD[i] + 1, TOLD[i] - 1, -TOLD[i] - 100, TOLD[i] + (1L << 32), NO}) {
                x.set(0, 7 + i, v);
                Check.due("number " + i + " is " + v, x.judge(0, 0, 7), i / 4);
            }
            x.set(0, 7 + i, TOLD[i]);
        }
        // It ends within the third TRACK: a number otherwise within what there is of it still tells that TRACK.
        x.list(1, 10);
        x.into(0, 1, 0);
        x.set(1, 9, 5);
        Check.due("the last number that there is", x.judge(0, 1, 0), 2);
        x.set(1, 3, 5);
        Check.due("an earlier one", x.judge(0, 1, 0), 0);
        // A fraction as great, but not in lowest terms, is otherwise.
        x.set(0, 7, -6);
        x.set(0, 8, 4);
        Check.due("-6/4 for -3/2", x.judge(0, 0, 7), 0);
    }

    private static void judgeAllSo() {
        TrackChamber x = some();
        x.list(0, 12);
        x.into(0, 0, 0);
        Check.due("the row ends with them", x.judge(0, 0, 0), -2);
        x.list(1, 24);
        x.into(0, 1, 12);
        Check.due("up to the last place", x.judge(0, 1, 12), -2);
        Check.due("one place ahead", x.judge(0, 1, 11), 0);
        x.into(0, 1, 3);
        x.set(1, 2, 88);
        x.set(1, 15, 88);
        Check.due("others ahead and behind", x.judge(0, 1, 3), -2);
    }

    private static void judgeEnds() {
        TrackChamber x = some();
        for (int n = 0; n < 12; n++) {
            x.list(0, n);
            x.into(0, 0, 0);
            Check.due("a row of " + n, x.judge(0, 0, 0), 100 + n / 4);
        }
        x.list(1, 24);
        x.into(0, 1, 13);
        Check.due("from place 13 of 24", x.judge(0, 1, 13), 102);
        Check.due("at its end", x.judge(0, 1, 24), 100);
        Check.due("one behind its end", x.judge(0, 1, 25), 100);
        x.list(2, 0);
        Check.due("a row of 0", x.judge(0, 2, 0), 100);
        for (int far : Chambers.FAR) {
            if (far > 0) {
                Check.due("p " + far, x.judge(0, 1, far), 100);
            }
        }
        for (int p = Integer.MAX_VALUE; p > Integer.MAX_VALUE - 20; p--) {
            Check.due("p " + p, x.judge(0, 1, p), 100);
        }
    }

    private static void judgeBad() {
        TrackChamber none = new TrackChamber();
        none.list(0, 4);
        Check.due("no VERTICES", none.judge(0, 0, 0), -1);
        TrackChamber x = some();
        x.drop();
        x.list(0, 24);
        for (int vertex : new int[] {-1, 3}) {
            Check.due("vertex " + vertex, x.judge(vertex, 0, 0), -1);
        }
        for (int list : new int[] {-1, 3}) {
            Check.due("list " + list, x.judge(0, list, 0), -1);
        }
        for (int far : Chambers.FAR) {
            Check.due("vertex " + far, x.judge(far, 0, 0), -1);
            Check.due("list " + far, x.judge(0, far, 0), -1);
        }
        Check.due("p -1", x.judge(0, 0, -1), -1);
        Check.due("p -12", x.judge(0, 0, -12), -1);
        Check.due("p least", x.judge(0, 0, Integer.MIN_VALUE), -1);
    }

    private static void judgeNothing() {
        TrackChamber x = some();
        for (int list = 0; list < 3; list++) {
            Check.due("list " + list, x.judge(0, list, 0), -11);
            Check.due("list " + list + ", p far", x.judge(0, list, 100), -11);
        }
        x.list(0, 0);
        Check.due("a row of 0 is not nothing", x.judge(0, 0, 0), 100);
    }

    private static void judgeNoBalance() {
        TrackChamber x = some();
        x.list(0, 24);
        Check.due("the only one OUT is STRAIGHT", x.judge(1, 0, 0), -5);
        Check.due("the one IN is STRAIGHT", x.judge(3, 0, 0), -5);
        Check.due("p behind its end", x.judge(3, 0, 30), -5);
        x.drop();
        x.vertex(0, 0, 0, 2 + 8);
        Check.due("the last one OUT is STRAIGHT", x.judge(3, 0, 0), -5);
    }

    private static void undoHowMany() {
        TrackChamber x = new TrackChamber();
        x.field(5);
        Check.due("the only one", x.undo(), 0);
        Check.due("FIELD", x.count(0), 3);
        for (int i = 0; i < 8; i++) {
            x.field(i + 1);
        }
        for (int i = 7; i >= 0; i--) {
            Check.due("undo()", x.undo(), i);
            Check.due("count(4)", x.count(4), i);
        }
    }

    private static void undoNone() {
        TrackChamber x = new TrackChamber();
        Check.due("a new object", x.undo(), -2);
        x.field(0);
        x.drop();
        x.wipe();
        x.track(0, 0, 0, 0, 1, 1);
        x.list(0, 4);
        x.feed('f');
        x.image();
        Check.due("refused calls, and such as make no CHANGE", x.undo(), -2);
        x.field(4);
        x.undo();
        Check.due("the only one is UNDONE", x.undo(), -2);
        Check.due("FIELD", x.count(0), 3);
    }

    /** One call that is not refused, and its undo(): all is as ahead of it. */
    private static void undone(String call, ToIntFunction<TrackChamber> change) {
        // A new object for each, so that what undo() lays back can't have been kept by another call.
        TrackChamber x = Chambers.eight();
        x.wipe();
        x.field(6);
        x.kind(0, P);
        x.vertex(0, 0, -1, 1 + 8);
        x.image();
        x.back();
        List<Long> before = Twins.picture(x);
        Check.due(call + " is not refused", change.applyAsInt(x) >= 0 ? 1 : 0, 1);
        Check.due(call + " is a CHANGE", x.count(4), 1);
        Check.due(call + ", undo()", x.undo(), 0);
        Check.due(call + ", undone, all is as it was", before.equals(Twins.picture(x)) ? 1 : 0, 1);
    }

    private static void undoEach() {
        undone("field()", x -> x.field(9));
        undone("field() of the same", x -> x.field(6));
        undone("track()", x -> x.track(0, 0, 1, 2, 3, 4));
        undone("kind()", x -> x.kind(3, B));
        undone("kind() of none", x -> x.kind(0, -1));
        undone("vertex()", x -> x.vertex(0, 0, 0, 2));
        undone("drop()", TrackChamber::drop);
        undone("wipe()", TrackChamber::wipe);
        undone("calls()", x -> x.calls(0, 0, 0));
    }

    /** Eight TRACKS, none like another, with KINDS, and four VERTICES, none like another. */
    private static TrackChamber unlike() {
        TrackChamber x = new TrackChamber();
        for (int r = 1; r <= 4; r++) {
            Chambers.under(x, r);
            Chambers.turned(x, r);
        }
        for (int track = 0; track < 8; track++) {
            x.kind(track, track % 2 == 0 ? new int[] {P, A, K, P}[track / 2] : new int[] {2, B, 8, 11}[track / 2]);
        }
        x.vertex(0, 0, -1, 1);
        x.vertex(2, 0, 0, 2);
        x.vertex(4, 4, -1, 8);
        x.vertex(8, 0, 7, 64);
        return x;
    }

    private static void otherwise(TrackChamber x) {
        while (x.drop() > 0) {
            Check.due("drop()", x.count(2) > 0 ? 1 : 0, 1);
        }
        while (x.wipe() > 0) {
            Check.due("wipe()", x.count(1) > 0 ? 1 : 0, 1);
        }
        for (int i = 0; i < 8; i++) {
            x.track(i, 9, 9, -i, -9, i - 20);
        }
        x.vertex(0, 9, -1, 1);
        x.vertex(1, 9, -1, 2);
        x.vertex(2, 9, -1, 4);
        x.vertex(3, 9, -1, 8);
    }

    private static void undoAll() {
        TrackChamber x = unlike();
        while (x.drop() > 0) {
            Check.due("drop()", x.count(2) > 0 ? 1 : 0, 1);
        }
        // What eight CHANGES make otherwise, eight undo() bring again.
        List<Long> before = Twins.picture(x);
        x.wipe();
        x.wipe();
        x.wipe();
        x.track(9, 9, 8, 8, 7, 5);
        x.track(-9, 9, 8, -8, 7, -5);
        x.track(-9, -9, -8, 8, -7, 5);
        x.vertex(7, 5, -1, 32);
        x.vertex(7, -5, -1, 64);
        while (x.undo() > 0) {
            Check.due("undo()", x.count(4) > 0 ? 1 : 0, 1);
        }
        List<Long> then = Twins.picture(x);
        Check.due("how much is there", then.size(), before.size());
        for (int i = 0; i < Math.min(then.size(), before.size()); i++) {
            Check.due("number " + i + " of all", then.get(i), i == 4 ? 0 : before.get(i));
        }
    }

    private static void backAll() {
        TrackChamber x = unlike();
        Check.due("TRACKS", x.count(1), 8);
        Check.due("VERTICES", x.count(2), 4);
        x.image();
        List<Long> before = Twins.picture(x);
        otherwise(x);
        Check.due("TRACKS, otherwise", x.count(1), 8);
        Check.due("VERTICES, otherwise", x.count(2), 4);
        x.back();
        List<Long> then = Twins.picture(x);
        for (int i = 0; i < Math.min(then.size(), before.size()); i++) {
            Check.due("number " + i + " of all", then.get(i), i == 4 ? 0 : before.get(i));
        }
        otherwise(x);
        x.back();
        Check.due("once more", then.equals(Twins.picture(x)) ? 1 : 0, 1);
    }

    private static void undoAsItWas() {
        TrackChamber x = Chambers.eight();
        x.kind(0, P);
        x.kind(3, B);
        x.vertex(0, 0, -1, 1 + 8);
        x.image();
        x.back();
        x.field(3);
        Check.due("field() of the same", x.count(4), 1);
        x.kind(0, P);
        Check.due("kind() of the same", x.count(4), 2);
        x.kind(1, -1);
        Check.due("kind() of none, none told", x.count(4), 3);
        x.calls(0, 0, 0);
        Check.due("calls(), nobody not told", x.count(4), 4);
        for (int i = 3; i >= 0; i--) {
            Check.due("undo()", x.undo(), i);
        }
        Check.due("no more", x.undo(), -2);
        Check.due("all is as it was", x.count(0) * 100 + x.count(3), 302);
    }

    private static void undoEight() {
        TrackChamber x = new TrackChamber();
        for (int i = 1; i <= 9; i++) {
            x.field(i);
        }
        for (int i = 8; i >= 1; i--) {
            x.undo();
            Check.due("back to FIELD " + i, x.count(0), i);
        }
        Check.due("the ninth is none", x.undo(), -2);
        Check.due("FIELD by the ninth stays", x.count(0), 1);
        TrackChamber y = new TrackChamber();
        y.field(9);
        for (int i = 1; i <= 8; i++) {
            y.field(i);
            y.field(0);
        }
        for (int i = 7; i >= 1; i--) {
            y.undo();
            Check.due("refused ones between: back to FIELD " + i, y.count(0), i);
        }
        y.undo();
        Check.due("the eighth: back to FIELD 9", y.count(0), 9);
        Check.due("the ninth is none", y.undo(), -2);
        for (int i = 0; i < 30; i++) {
            y.field(i % 9 + 1);
            y.field(i % 9 + 1);
            y.undo();
        }
        for (int i = 28; i >= 22; i--) {
            y.undo();
            Check.due("undone between: back to FIELD " + (i % 9 + 1), y.count(0), i % 9 + 1);
        }
    }

    private static void undoBehindReads() {
        TrackChamber x = new TrackChamber();
        x.field(5);
        x.field(6);
        Check.due("reads nothing", x.reads(), -1000);
        Check.due("CHANGES", x.count(4), 2);
        Check.due("reads one STATEMENT", Check.read(x, "f7"), 1);
        Check.due("no CHANGES", x.count(4), 0);
        Check.due("undo()", x.undo(), -2);
        Check.due("FIELD", x.count(0), 7);
        x.field(7);
        Check.due("reads one that leaves all as it was", Check.read(x, "f7"), 1);
        Check.due("no CHANGES", x.count(4), 0);
        x.field(8);
        Check.due("a CHANGE behind it", x.undo(), 0);
        Check.due("back to what was read", x.count(0), 7);
        Check.due("no further", x.undo(), -2);
    }

    private static void undoBehindBack() {
        TrackChamber x = new TrackChamber();
        x.field(5);
        Check.due("back() refused", x.back(), -5);
        Check.due("CHANGES stay", x.count(4), 1);
        x.image();
        Check.due("CHANGES stay behind image()", x.count(4), 1);
        x.field(6);
        x.back();
        Check.due("undo()", x.undo(), -2);
        Check.due("FIELD", x.count(0), 5);
        x.field(8);
        Check.due("a CHANGE behind it", x.undo(), 0);
        Check.due("back to what was laid back", x.count(0), 5);
        Check.due("no further", x.undo(), -2);
    }

    private static void undoLeavesTheRest() {
        TrackChamber x = Chambers.full();
        x.field(1);
        x.prints(0);
        x.set(0, 3, 44);
        x.list(1, 2);
        x.feed('x');
        while (x.undo() >= 0) {
            Check.due("paper(2)", x.paper(2), 'p');
        }
        Check.due("count(6)", x.count(6), 4);
        Check.due("get(0, 3)", x.get(0, 3), 44);
        Check.due("get(1, 1)", x.get(1, 1), 0);
        Check.due("get(1, 2)", x.get(1, 2), NO);
        Check.due("count(5)", x.count(5), 7);
        Check.due("THE TAPE", x.reads(), -1006);
    }

    private static void imageNoneAndAll() {
        Check.due("none", new TrackChamber().image(), 0);
        Check.due("all", Chambers.eight().image(), 8);
        TrackChamber x = Chambers.full();
        Check.due("kept once more", x.image(), 8);
        x.drop();
        x.drop();
        x.drop();
        x.drop();
        x.wipe();
        Check.due("back() to the later one", x.back() * 10 + x.count(2), 84);
        x.field(9);
        x.image();
        x.undo();
        Check.due("undo() leaves THE IMAGE", x.back() * 10 + x.count(0), 89);
    }

    private static void imageKeeps() {
        TrackChamber x = some();
        x.field(7);
        x.kind(0, K);
        x.kind(3, N);
        Check.due("image()", x.image(), 4);
        x.field(2);
        x.kind(0, A);
        x.kind(3, -1);
        for (int i = 0; i < 4; i++) {
            x.drop();
        }
        for (int i = 0; i < 4; i++) {
            x.wipe();
        }
        x.track(9, 9, 8, 8, 1, 2);
        x.track(0, 0, 5, 5, 1, 2);
        x.vertex(9, 9, -1, 1);
        Check.due("back()", x.back(), 4);
        Check.due("FIELD", x.count(0), 7);
        int[][] points = {{0, 0, 2, -2, 4, 0, 2, K}, {0, 0, 4, 0, 4, 4, 2, 12}, {0, 0, 1, 2, 3, 1, 0, 12},
            {0, 0, 1, 0, 2, 0, 1, N}};
        int[][] vertices = {{20, 20, 2, 3}, {20, 20, 8, 8}, {20, 20, 8, 1}, {20, 20, 3, 1}};
        for (int i = 0; i < 4; i++) {
            for (int what = 0; what < 8; what++) {
                Check.due("trackOf(" + i + ", " + what + ")", x.trackOf(i, what), points[i][what]);
            }
            for (int what = 0; what < 4; what++) {
                Check.due("vertexOf(" + i + ", " + what + ")", x.vertexOf(i, what), vertices[i][what]);
            }
        }
    }

    private static void backNoneAndAll() {
        TrackChamber x = new TrackChamber();
        x.image();
        Chambers.under(x, 2);
        x.vertex(0, 0, -1, 1);
        Check.due("none", x.back(), 0);
        Check.due("no VERTICES", x.count(2), 0);
        TrackChamber y = Chambers.eight();
        y.image();
        for (int i = 0; i < 8; i++) {
            y.wipe();
        }
        Check.due("all", y.back(), 8);
        y.wipe();
        Check.due("all once more", y.back(), 8);
        y.kind(0, P);
        y.back();
        Check.due("what is laid back is not THE IMAGE itself", y.trackOf(0, 7), 12);
    }

    private static void backNoChanges() {
        TrackChamber x = Chambers.full();
        Check.due("CHANGES ahead of it", x.count(4), 8);
        x.back();
        Check.due("none", x.count(4), 0);
        Check.due("undo()", x.undo(), -2);
        Check.due("VERTICES of THE IMAGE", x.count(2), 2);
    }

    private static void backLeavesTheRest() {
        TrackChamber x = Chambers.full();
        x.prints(0);
        x.set(0, 3, 44);
        x.feed('x');
        x.list(2, 1);
        Check.due("back()", x.back(), 8);
        Check.due("paper(2)", x.paper(2), 'p');
        Check.due("count(6)", x.count(6), 4);
        Check.due("get(0, 3)", x.get(0, 3), 44);
        Check.due("get(0, 23)", x.get(0, 23), -7);
        Check.due("get(2, 0)", x.get(2, 0), 0);
        Check.due("count(5)", x.count(5), 7);
        Check.due("THE TAPE", x.reads(), -1006);
    }

    private static void backNone() {
        TrackChamber x = Chambers.eight();
        x.field(9);
        Check.due("back()", x.back(), -5);
        Check.due("FIELD stays", x.count(0), 9);
        Check.due("TRACKS stay", x.count(1), 8);
        Check.due("CHANGES stay", x.count(4), 8);
        x.image();
        Check.due("back() behind image()", x.back(), 8);
    }
}
