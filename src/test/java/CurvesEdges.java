import java.util.function.LongUnaryOperator;

/** Boundary cases of promises 13 to 18. */
final class CurvesEdges {
    private static final long NO = TrackChamber.NO;

    private CurvesEdges() {
    }

    static void run() {
        Edge.of(13, "Fractions in lowest terms: part 0 above (below 0, too), 1 below the line (above 0; 0 is 0 by 1);",
            CurvesEdges::centreInLowestTerms);
        Edge.of(13, "CENTRE of one that is not STRAIGHT: of that circle (fractions).", CurvesEdges::centreNearAndFar);
        Edge.of(13, "CENTRE of a TRACK along an axis (0 x, 1 y). NO:", CurvesEdges::centreBeyond);
        Edge.of(13, "also it is STRAIGHT.", CurvesEdges::centreOfStraight);
        Edge.of(14, "1 the POINT is ON the TRACK, 0 not.", CurvesEdges::onAndBeside);
        Edge.of(14, "it lies on the circle through a, b, c (all of it),", CurvesEdges::onAllOfTheCircle);
        Edge.of(14, "if STRAIGHT, on the line through them (without end).", CurvesEdges::onLineWithoutEnd);
        Edge.of(14, "BAD.", CurvesEdges::onBeyond);
        ofMeetings();
        ofPushes();
        ofAllTracks();
    }

    private static void ofMeetings() {
        Edge.of(15, "MEETINGS of two TRACKS: POINTS ON both, by x, then y.", CurvesEdges::meetsByXThenY);
        Edge.of(15, "how many (k -1),", CurvesEdges::meetsHowMany);
        Edge.of(15, "else the k-th: 1000 times (x plus 20) plus y plus 20.", CurvesEdges::meetsInCorners);
        Edge.of(15, "MEETINGS, THROUGH: POINTS of the grid alone,", CurvesEdges::meetsOnGridAlone);
        Edge.of(15, "of two TRACKS on one circle all of these.", CurvesEdges::meetsOnOneCircle);
        Edge.of(15, "BAD: tracks,", CurvesEdges::meetsBeyond);
        Edge.of(15, "the same,", CurvesEdges::meetsTheSame);
        Edge.of(15, "k below -1;", CurvesEdges::meetsBelow);
        Edge.of(15, "NOT: there is no k-th.", CurvesEdges::meetsNoKth);
    }

    private static void ofPushes() {
        Edge.of(16, "PUSH of a TRACK at a POINT along an axis (0, 1). NO:", CurvesEdges::pushBeyond);
        Edge.of(16, "also it is not ON it,", CurvesEdges::pushBeside);
        Edge.of(16, "it is STRAIGHT.", CurvesEdges::pushOfStraight);
        Edge.of(16, "1 below the line (above 0; 0 is 0 by 1)", CurvesEdges::pushInLowestTerms);
        Edge.of(16, "FIELD times TURN times (CENTRE's y less y) along x, FIELD times TURN times (x less CENTRE's x)"
            + " along y: two fractions;", CurvesEdges::pushLeastAndGreatest);
    }

    private static void ofAllTracks() {
        Edge.of(17, "FITS (bits).", CurvesEdges::fitsNoneAndAll);
        Edge.of(17, "BAD.", CurvesEdges::fitsBeyond);
        Edge.of(18, "THROUGH: the POINT on most TRACKS", CurvesEdges::throughMost);
        Edge.of(18, "(of several that of least x, then least y)", CurvesEdges::throughOfSeveral);
        Edge.of(18, "10000 times how many, plus 100 times (x plus 20), plus y plus 20.", CurvesEdges::throughCorners);
        Edge.of(18, "MEETINGS, THROUGH: POINTS of the grid alone,", CurvesEdges::throughOnGridAlone);
        Edge.of(18, "NOT: there are no TRACKS.", CurvesEdges::throughNone);
    }

    private static void fraction(String call, LongUnaryOperator part, long above, long below) {
        Check.due(call + ", above", part.applyAsLong(0), above);
        Check.due(call + ", below", part.applyAsLong(1), below);
    }

    private static void centreAt(TrackChamber x, int track, long ax, long bx, long ay, long by) {
        fraction("CENTRE of " + track + " along x", part -> x.centre(track, 0, (int) part), ax, bx);
        fraction("CENTRE of " + track + " along y", part -> x.centre(track, 1, (int) part), ay, by);
    }

    private static void centreInLowestTerms() {
        TrackChamber x = new TrackChamber();
        Chambers.square(x, 2);
        Chambers.turned(x, 2);
        x.track(0, 0, 1, 0, 0, 2);
        x.track(0, 0, 0, -2, -1, 0);
        x.track(5, 0, 3, 4, -4, 3);
        x.track(-4, 3, 3, 4, 5, 0);
        x.track(0, 0, 3, 0, 0, 1);
        centreAt(x, 0, 2, 1, 2, 1);
        centreAt(x, 1, 2, 1, 2, 1);
        centreAt(x, 2, 1, 2, 1, 1);
        centreAt(x, 3, -1, 2, -1, 1);
        centreAt(x, 4, 0, 1, 0, 1);
        centreAt(x, 5, 0, 1, 0, 1);
        // BEND 3: sixths, shortened to halves.
        centreAt(x, 6, 3, 2, 1, 2);
    }

    private static void centreNearAndFar() {
        TrackChamber x = new TrackChamber();
        // The smallest circle, and the greatest: BEND 1 from one end of the grid to the other, then turned round.
        x.track(0, 0, 1, 0, 0, 1);
        x.track(-20, -20, -1, -2, 19, 17);
        x.track(20, 20, 1, 2, -19, -17);
        x.track(19, 17, -1, -2, -20, -20);
        centreAt(x, 0, 1, 2, 1, 2);
        centreAt(x, 1, -26715, 2, 28155, 2);
        centreAt(x, 2, 26715, 2, -28155, 2);
        centreAt(x, 3, -26715, 2, 28155, 2);
        // Thirds: BEND 3, (0, 0), (1, 1), (-1, 2): x is -1/6, y 7/6.
        x.track(0, 0, 1, 1, -1, 2);
        centreAt(x, 4, -1, 6, 7, 6);
    }

    private static void centreBeyond() {
        Check.due("centre(0, 0, 0), no TRACKS", new TrackChamber().centre(0, 0, 0), NO);
        TrackChamber x = Chambers.eight();
        x.wipe();
        for (int v : new int[] {-1, 2}) {
            Check.due("axis " + v, x.centre(0, v, 0), NO);
            Check.due("part " + v, x.centre(0, 0, v), NO);
        }
        for (int v : new int[] {-1, 7, 8}) {
            Check.due("track " + v, x.centre(v, 0, 0), NO);
        }
        for (int far : Chambers.FAR) {
            Check.due("track " + far, x.centre(far, 0, 0), NO);
            Check.due("axis " + far, x.centre(0, far, 0), NO);
            Check.due("part " + far, x.centre(0, 0, far), NO);
        }
    }

    private static void centreOfStraight() {
        TrackChamber x = new TrackChamber();
        x.track(0, 0, 0, 5, 0, 10);
        x.track(0, 0, 5, 0, 10, 0);
        x.track(-20, -20, 20, 20, 0, 0);
        for (int track = 0; track < 3; track++) {
            for (int way = 0; way < 4; way++) {
                Check.due("STRAIGHT " + track, x.centre(track, way / 2, way % 2), NO);
            }
        }
    }

    private static void onAndBeside() {
        TrackChamber x = new TrackChamber();
        // A flat circle, the same turned over by y is -x: (-1, 0) is ON it, its neighbours are not.
        x.track(-20, -20, 0, 1, 20, 20);
        Check.due("b", x.on(0, 0, 1), 1);
        Check.due("b turned over", x.on(0, -1, 0), 1);
        Check.due("beside it", x.on(0, 0, 0), 0);
        Check.due("beside b", x.on(0, 1, 2), 0);
        Check.due("beside c", x.on(0, 20, 19), 0);
        Check.due("the other end of the way", x.on(0, 1, 0), 0);
        // Around (0, 0) by the root of 65.
        x.track(8, 1, 1, 8, -7, 4);
        Check.due("65", x.on(1, -4, -7), 1);
        Check.due("64", x.on(1, 8, 0), 0);
        Check.due("61", x.on(1, 6, 5), 0);
        Check.due("68", x.on(1, 8, 2), 0);
        Check.due("CENTRE", x.on(1, 0, 0), 0);
        // A line, and POINTS one step off it.
        x.track(-20, -20, 0, 0, 20, 20);
        Check.due("a", x.on(2, -20, -20), 1);
        Check.due("one step off", x.on(2, 19, 20), 0);
        Check.due("one step off, other side", x.on(2, 20, 19), 0);
    }

    private static void onAllOfTheCircle() {
        TrackChamber x = new TrackChamber();
        // a, b, c are close together: (5, 0), (4, 3), (3, 4).
        x.track(5, 0, 4, 3, 3, 4);
        int[][] all = {{5, 0}, {4, 3}, {3, 4}, {0, 5}, {-3, 4}, {-4, 3}, {-5, 0}, {-4, -3}, {-3, -4}, {0, -5}, {3, -4},
            {4, -3}};
        int found = 0;
        for (int px = -6; px <= 6; px++) {
            for (int py = -6; py <= 6; py++) {
                found += x.on(0, px, py);
            }
        }
        Check.due("POINTS ON it", found, all.length);
        for (int[] p : all) {
            Check.due("on(0, " + p[0] + ", " + p[1] + ")", x.on(0, p[0], p[1]), 1);
        }
    }

    private static void onLineWithoutEnd() {
        TrackChamber x = new TrackChamber();
        x.track(0, 0, 1, 0, 2, 0);
        x.track(3, 1, 3, 0, 3, 2);
        x.track(0, 1, 2, 2, 4, 3);
        Check.due("y is 0, greatest", x.on(0, 20, 0), 1);
        Check.due("y is 0, least", x.on(0, -20, 0), 1);
        Check.due("x is 3, greatest", x.on(1, 3, 20), 1);
        Check.due("x is 3, least", x.on(1, 3, -20), 1);
        Check.due("slanting, greatest", x.on(2, 20, 11), 1);
        Check.due("slanting, least", x.on(2, -20, -9), 1);
        Check.due("slanting, between two POINTS", x.on(2, 19, 11), 0);
        Check.due("slanting, between two others", x.on(2, 19, 10), 0);
    }

    private static void onBeyond() {
        Check.due("on(0, 0, 0), no TRACKS", new TrackChamber().on(0, 0, 0), -1);
        TrackChamber x = Chambers.eight();
        x.wipe();
        for (int v : new int[] {21, -21}) {
            Check.due("x " + v, x.on(5, v, 0), -1);
            Check.due("y " + v, x.on(0, 0, v), -1);
        }
        for (int track : new int[] {-1, 7, 8}) {
            Check.due("track " + track, x.on(track, 0, 0), -1);
        }
        for (int far : Chambers.FAR) {
            Check.due("track " + far, x.on(far, 0, 0), -1);
            Check.due("x " + far, x.on(5, far, 0), -1);
            Check.due("y " + far, x.on(0, 0, far), -1);
        }
    }

    private static void meetsByXThenY() {
        TrackChamber x = new TrackChamber();
        x.track(5, 0, 3, 4, 0, 5);
        x.track(3, 20, 3, 0, 3, -20);
        Check.due("one x: the lesser y", x.meets(0, 1, 0), 23016);
        Check.due("one x: the greater y", x.meets(0, 1, 1), 23024);
        // Around (1, 1) by 5: (-3, 4) lies on both, and (4, -3).
        x.track(6, 1, 4, 5, 1, 6);
        Check.due("the lesser x with the greater y", x.meets(0, 2, 0), 17024);
        Check.due("the greater x with the lesser y", x.meets(0, 2, 1), 24017);
        Check.due("the other way round", x.meets(2, 0, 0), 17024);
    }

    private static void meetsHowMany() {
        TrackChamber x = new TrackChamber();
        Chambers.under(x, 2);
        Chambers.under(x, 4);
        x.track(0, 9, 1, 9, 2, 9);
        x.track(0, 8, 5, 8, 2, 8);
        x.track(2, 20, 2, 5, 2, -20);
        Check.due("two circles that touch", x.meets(0, 1, -1), 1);
        Check.due("where they touch", x.meets(0, 1, 0), 20020);
        Check.due("a circle and a line afar", x.meets(0, 2, -1), 0);
        Check.due("two lines side by side", x.meets(2, 3, -1), 0);
        Check.due("two lines", x.meets(3, 4, -1), 1);
        Check.due("a circle and a line", x.meets(0, 4, -1), 2);
        x.track(2, -7, 2, 3, 2, 4);
        Check.due("one line", x.meets(4, 5, -1), 41);
    }

    private static void meetsInCorners() {
        TrackChamber x = new TrackChamber();
        x.track(-20, -20, -20, 20, 20, 20);
        x.track(-20, -20, 0, 0, 20, 20);
        x.track(-20, 20, 0, 0, 20, -20);
        Check.due("the least POINT", x.meets(0, 1, 0), 0);
        Check.due("the greatest POINT", x.meets(0, 1, 1), 40040);
        Check.due("least x, greatest y", x.meets(0, 2, 0), 40);
        Check.due("greatest x, least y", x.meets(0, 2, 1), 40000);
        Check.due("the middle", x.meets(1, 2, 0), 20020);
    }

    private static void meetsOnGridAlone() {
        TrackChamber x = new TrackChamber();
        // Circles by 1 around (0, 0) and (1, 0) cross where x is 1/2.
        x.track(1, 0, 0, 1, -1, 0);
        x.track(2, 0, 1, 1, 0, 0);
        Check.due("two circles that cross between POINTS", x.meets(0, 1, -1), 0);
        Check.due("no 0th of them", x.meets(0, 1, 0), -2);
        // y is 2 - x/20 is 0 where x is 40.
        x.track(-20, 3, 0, 2, 20, 1);
        x.track(-20, 0, 0, 0, 20, 0);
        Check.due("two lines that cross beyond the grid", x.meets(2, 3, -1), 0);
        // y is x and y is 1 - x.
        x.track(0, 0, 1, 1, 2, 2);
        x.track(0, 1, 1, 0, 2, -1);
        Check.due("two lines that cross between POINTS", x.meets(4, 5, -1), 0);
    }

    private static void meetsOnOneCircle() {
        TrackChamber x = new TrackChamber();
        // Around (0, 20) by 5: half of it lies beyond the grid.
        x.track(-5, 20, -4, 17, 0, 15);
        x.track(5, 20, 0, 15, -3, 16);
        int[] due = {15040, 16037, 17036, 20035, 23036, 24037, 25040};
        Check.due("how many", x.meets(0, 1, -1), due.length);
        for (int k = 0; k < due.length; k++) {
            Check.due("meets(0, 1, " + k + ")", x.meets(0, 1, k), due[k]);
        }
        Check.due("no more", x.meets(0, 1, due.length), -2);
        x.track(-5, 20, -4, 17, 0, 15);
        Check.due("the same POINTS once more", x.meets(0, 2, -1), due.length);
    }

    private static void meetsBeyond() {
        Check.due("meets(0, 1, -1), no TRACKS", new TrackChamber().meets(0, 1, -1), -1);
        TrackChamber x = Chambers.eight();
        x.wipe();
        for (int track : new int[] {-1, 7, 8}) {
            Check.due("one " + track, x.meets(track, 0, -1), -1);
            Check.due("other " + track, x.meets(0, track, -1), -1);
        }
        for (int far : Chambers.FAR) {
            Check.due("one " + far, x.meets(far, 0, -1), -1);
            Check.due("other " + far, x.meets(0, far, -1), -1);
        }
        Check.due("the last TRACK", x.meets(0, 6, -1), 2);
    }

    private static void meetsTheSame() {
        TrackChamber x = Chambers.eight();
        for (int track : new int[] {0, 3, 7}) {
            Check.due("how many", x.meets(track, track, -1), -1);
            Check.due("the 0th", x.meets(track, track, 0), -1);
        }
        Check.due("unlike TRACKS through the same POINTS", x.meets(0, 1, 0), 20020);
    }

    private static void meetsBelow() {
        TrackChamber x = Chambers.eight();
        Check.due("k -2", x.meets(0, 1, -2), -1);
        Check.due("k least", x.meets(0, 1, Integer.MIN_VALUE), -1);
        Check.due("k -1", x.meets(0, 1, -1), 4);
    }

    private static void meetsNoKth() {
        TrackChamber x = Chambers.eight();
        Check.due("the last", x.meets(0, 3, 3), 24024);
        Check.due("behind the last", x.meets(0, 3, 4), -2);
        Check.due("far behind", x.meets(0, 3, Integer.MAX_VALUE), -2);
        Check.due("1681, all POINTS there are", x.meets(5, 6, 1681), -2);
        Check.due("the last of a line", x.meets(5, 6, 40), 40020);
        Check.due("behind it", x.meets(5, 6, 41), -2);
    }

    private static void pushBeyond() {
        Check.due("push(0, 0, 0, 0, 0), no TRACKS", new TrackChamber().push(0, 0, 0, 0, 0), NO);
        TrackChamber x = Chambers.eight();
        x.wipe();
        for (int v : new int[] {-1, 2}) {
            Check.due("axis " + v, x.push(0, 0, 0, v, 0), NO);
            Check.due("part " + v, x.push(0, 0, 0, 0, v), NO);
        }
        for (int v : new int[] {-1, 7, 8}) {
            Check.due("track " + v, x.push(v, 0, 0, 0, 0), NO);
        }
        for (int far : Chambers.FAR) {
            Check.due("track " + far, x.push(far, 0, 0, 0, 0), NO);
            Check.due("x " + far, x.push(0, far, 0, 0, 0), NO);
            Check.due("y " + far, x.push(0, 0, far, 0, 0), NO);
            Check.due("axis " + far, x.push(0, 0, 0, far, 0), NO);
            Check.due("part " + far, x.push(0, 0, 0, 0, far), NO);
        }
        // Around (18, 0) by 5: (22, 3) and (23, 0) lie on the circle, but beyond the grid.
        x.wipe();
        x.track(13, 0, 15, 4, 14, 3);
        Check.due("beyond the grid on the circle", x.push(6, 22, 3, 0, 0), NO);
        Check.due("beyond the grid on the circle, y", x.push(6, 23, 0, 1, 0), NO);
    }

    private static void pushBeside() {
        TrackChamber x = Chambers.eight();
        for (int way = 0; way < 4; way++) {
            Check.due("beside", x.push(0, 0, 1, way / 2, way % 2), NO);
            Check.due("at the CENTRE", x.push(0, 2, 2, way / 2, way % 2), NO);
        }
        Check.due("ON it, far from a, b, c", x.push(0, 0, 4, 0, 0), 6 * -1);
    }

    private static void pushOfStraight() {
        TrackChamber x = Chambers.eight();
        x.wipe();
        x.track(3, 20, 3, 0, 3, -20);
        for (int way = 0; way < 4; way++) {
            Check.due("level", x.push(5, 0, 0, way / 2, way % 2), NO);
            Check.due("upright", x.push(7, 3, 0, way / 2, way % 2), NO);
        }
    }

    private static void pushAt(TrackChamber x, int track, int px, int py, long... due) {
        String call = "PUSH of " + track + " at " + px + ", " + py;
        fraction(call + " along x", part -> x.push(track, px, py, 0, (int) part), due[0], due[1]);
        fraction(call + " along y", part -> x.push(track, px, py, 1, (int) part), due[2], due[3]);
    }

    private static void pushInLowestTerms() {
        TrackChamber x = new TrackChamber();
        Chambers.under(x, 2);
        Chambers.over(x, 2);
        x.track(0, 0, 1, 0, 0, 1);
        pushAt(x, 0, 0, 0, 0, 1, -6, 1);
        pushAt(x, 0, 4, 0, 0, 1, 6, 1);
        pushAt(x, 0, 2, 2, -6, 1, 0, 1);
        pushAt(x, 1, 0, 0, 0, 1, 6, 1);
        pushAt(x, 1, 2, -2, -6, 1, 0, 1);
        pushAt(x, 2, 0, 0, 3, 2, -3, 2);
        pushAt(x, 2, 1, 1, -3, 2, 3, 2);
        x.field(4);
        pushAt(x, 2, 0, 0, 2, 1, -2, 1);
        x.field(9);
        // CENTRE (-1/6, 7/6): ninths of FIELD shorten sixths to halves.
        x.track(0, 0, 1, 1, -1, 2);
        pushAt(x, 3, 0, 0, 21, 2, 3, 2);
    }

    private static void pushLeastAndGreatest() {
        TrackChamber x = new TrackChamber();
        x.field(1);
        x.track(0, 0, 1, 0, 0, 1);
        pushAt(x, 0, 0, 0, 1, 2, -1, 2);
        x.field(9);
        pushAt(x, 0, 0, 0, 9, 2, -9, 2);
        x.track(-20, -20, -1, -2, 19, 17);
        pushAt(x, 1, -20, -20, 253755, 2, 240075, 2);
        x.track(19, 17, -1, -2, -20, -20);
        pushAt(x, 2, -20, -20, -253755, 2, -240075, 2);
    }

    private static void fitsNoneAndAll() {
        Check.due("no TRACKS", new TrackChamber().fits(0, 0), 0);
        TrackChamber x = Chambers.eight();
        Check.due("ON all eight", x.fits(0, 0), 255);
        Check.due("ON none", x.fits(1, 1), 0);
        Check.due("ON the first five", x.fits(4, 4), 31);
        Check.due("ON the last three", x.fits(20, 0), 224);
        Check.due("ON the last three, least x", x.fits(-20, 0), 224);
        x.wipe();
        Check.due("the last one wiped", x.fits(0, 0), 127);
    }

    private static void fitsBeyond() {
        TrackChamber x = Chambers.eight();
        for (int v : new int[] {21, -21}) {
            Check.due("x " + v, x.fits(v, 0), -1);
            Check.due("y " + v, x.fits(0, v), -1);
        }
        for (int far : Chambers.FAR) {
            Check.due("x " + far, x.fits(far, 0), -1);
            Check.due("y " + far, x.fits(0, far), -1);
        }
        Check.due("no TRACKS", new TrackChamber().fits(0, 21), -1);
    }

    private static void throughMost() {
        TrackChamber x = new TrackChamber();
        x.track(-20, 0, 0, 0, 20, 0);
        x.track(19, -20, 19, 0, 19, 20);
        Check.due("two meet far from least x", x.through(), 20000 + 3900 + 20);
        x.track(18, -20, 18, 0, 18, 20);
        x.track(18, -20, 18, 3, 18, 20);
        Check.due("three meet, one step off", x.through(), 30000 + 3800 + 20);
        TrackChamber y = Chambers.eight();
        Check.due("all eight", y.through(), 80000 + 2000 + 20);
        y.wipe();
        Check.due("seven", y.through(), 70000 + 2000 + 20);
    }

    private static void throughOfSeveral() {
        TrackChamber x = new TrackChamber();
        x.track(5, 0, 3, 4, 0, 5);
        Check.due("one circle: least x", x.through(), 10000 + 1500 + 20);
        TrackChamber y = new TrackChamber();
        y.track(3, 20, 3, 0, 3, -20);
        Check.due("one upright line: least y", y.through(), 10000 + 2300);
        y.track(5, 0, 3, 4, 0, 5);
        Check.due("one x: the lesser y", y.through(), 20000 + 2300 + 16);
        TrackChamber z = new TrackChamber();
        z.track(5, 0, 3, 4, 0, 5);
        z.track(6, 1, 4, 5, 1, 6);
        Check.due("the lesser x with the greater y", z.through(), 20000 + 1700 + 24);
        TrackChamber w = new TrackChamber();
        w.track(-20, 20, -20, 0, -20, 19);
        w.track(-19, -20, -19, 0, -19, 19);
        Check.due("least x ahead of least y", w.through(), 10000);
    }

    private static void throughCorners() {
        TrackChamber x = new TrackChamber();
        x.track(-20, -20, 0, 0, 20, 20);
        Check.due("the least POINT", x.through(), 10000);
        x.track(20, -20, 20, 0, 20, 20);
        Check.due("the greatest POINT", x.through(), 20000 + 4000 + 40);
        TrackChamber y = new TrackChamber();
        y.track(-20, 20, 0, 0, 20, -20);
        Check.due("least x, greatest y", y.through(), 10000 + 40);
        y.track(20, -20, 20, 0, 20, 20);
        Check.due("greatest x, least y", y.through(), 20000 + 4000);
    }

    private static void throughOnGridAlone() {
        TrackChamber x = new TrackChamber();
        x.track(0, 0, 1, 1, 2, 2);
        x.track(0, 1, 1, 0, 2, -1);
        Check.due("two lines that cross between POINTS", x.through(), 10000);
        TrackChamber y = new TrackChamber();
        y.track(-20, 3, 0, 2, 20, 1);
        y.track(-20, 0, 0, 0, 20, 0);
        Check.due("two lines that cross beyond the grid", y.through(), 10000 + 20);
    }

    private static void throughNone() {
        TrackChamber x = new TrackChamber();
        Check.due("a new object", x.through(), -2);
        x.track(0, 0, 1, 0, 0, 1);
        Check.due("one TRACK", x.through(), 10000 + 2000 + 20);
        x.wipe();
        Check.due("none left", x.through(), -2);
    }
}
