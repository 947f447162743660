/** Promises 19 to 22. */
public final class BalanceTest {
    private static final long NO = TrackChamber.NO;

    public static void main(String[] args) {
        lostAndEven();
        lostInFractions();
        came();
        spoils();
        Check.end();
    }

    /** Circles through (0, 0), TURN 1, PUSHES by FIELD 3 there: (0, -6), (0, -12), (6, -6), then a line. */
    private static TrackChamber four() {
        TrackChamber x = new TrackChamber();
        x.track(0, 0, 2, -2, 4, 0);
        x.track(0, 0, 4, -4, 8, 0);
        x.track(0, 0, 4, 0, 4, 4);
        x.track(0, 0, 1, 1, 2, 2);
        return x;
    }

    private static void lostAndEven() {
        TrackChamber x = four();
        Check.due("lost, none", x.lost(0, 0, 0), NO);
        Check.due("even, none", x.even(0), -1);
        x.track(0, 0, 4, -4, 8, 0);
        x.vertex(0, 0, 1, 5);
        Check.due("lost x", x.lost(0, 0, 0), -6);
        Check.due("lost y", x.lost(0, 1, 0), 0);
        Check.due("lost y below", x.lost(0, 1, 1), 1);
        Check.due("lost STRENGTH", x.lost(0, 2, 0), 36);
        Check.due("lost STRENGTH by 1", x.lost(0, 2, 1), 1);
        Check.due("even not", x.even(0), 0);
        x.vertex(0, 0, 4, 2);
        Check.due("lost nothing", x.lost(1, 0, 0), 0);
        Check.due("lost nothing below", x.lost(1, 0, 1), 1);
        Check.due("lost nothing STRENGTH", x.lost(1, 2, 0), 0);
        Check.due("even", x.even(1), 1);
        x.vertex(0, 0, 3, 2);
        Check.due("lost, IN STRAIGHT", x.lost(2, 0, 0), NO);
        Check.due("even, IN STRAIGHT", x.even(2), -2);
        x.vertex(0, 0, -1, 10);
        Check.due("lost, OUT STRAIGHT", x.lost(3, 2, 1), NO);
        Check.due("even, OUT STRAIGHT", x.even(3), -2);
        Check.due("lost what 3", x.lost(0, 3, 0), NO);
        Check.due("lost what -1", x.lost(0, -1, 0), NO);
        Check.due("lost part 2", x.lost(0, 2, 2), NO);
        Check.due("lost part -1", x.lost(0, 0, -1), NO);
        Check.due("lost vertex 4", x.lost(4, 0, 0), NO);
        Check.due("lost vertex -1", x.lost(-1, 0, 0), NO);
        Check.due("even vertex 4", x.even(4), -1);
        Check.due("even vertex -1", x.even(-1), -1);
    }

    private static void lostInFractions() {
        TrackChamber x = new TrackChamber();
        // PUSH there by FIELD 1: (-1/2, 3/2); LOST with none IN: (1/2, -3/2), with two such (1, -3).
        x.field(1);
        x.track(0, 0, 1, 2, 3, 1);
        x.track(0, 0, 1, 2, 3, 1);
        x.vertex(0, 0, -1, 1);
        x.vertex(0, 0, -1, 3);
        Check.due("half above", x.lost(0, 0, 0), 1);
        Check.due("half below", x.lost(0, 0, 1), 2);
        Check.due("three halves above", x.lost(0, 1, 0), -3);
        Check.due("three halves below", x.lost(0, 1, 1), 2);
        Check.due("STRENGTH cut toward 0", x.lost(0, 2, 0), 1);
        Check.due("two halves", x.lost(1, 0, 0), 1);
        Check.due("two halves below", x.lost(1, 0, 1), 1);
        Check.due("STRENGTH of the whole LOST", x.lost(1, 2, 0), 10);
        // The flattest circles of the grid, with unlike numbers below the line, all four at one POINT.
        TrackChamber y = new TrackChamber();
        y.field(9);
        y.track(-20, -20, -1, 0, 19, 20);
        y.track(-20, -20, 0, -1, 19, 20);
        y.track(-20, -20, 3, 19, 20, 17);
        y.track(-20, -20, 17, -19, 20, 13);
        y.vertex(-20, -20, 0, 14);
        java.math.BigInteger[] sum = {java.math.BigInteger.ZERO, java.math.BigInteger.ONE};
        for (int t = 0; t < 4; t++) {
            java.math.BigInteger above = java.math.BigInteger.valueOf(y.push(t, -20, -20, 0, 0));
            java.math.BigInteger below = java.math.BigInteger.valueOf(y.push(t, -20, -20, 0, 1));
            above = t == 0 ? above : above.negate();
            sum[0] = sum[0].multiply(below).add(above.multiply(sum[1]));
            sum[1] = sum[1].multiply(below);
        }
        java.math.BigInteger common = sum[0].gcd(sum[1]);
        Check.due("flattest above", y.lost(0, 0, 0), sum[0].divide(common).longValueExact());
        Check.due("flattest below", y.lost(0, 0, 1), sum[1].divide(common).longValueExact());
    }

    private static void came() {
        TrackChamber x = four();
        Check.due("came, none", x.came(0), -1);
        x.track(-8, 0, -4, 0, 4, 0);
        x.track(0, -8, 0, 8, 0, 4);
        // All PUSHES of 0, OUT of (0, 0) alone: (0, -6), so it comes from above.
        x.vertex(0, 0, -1, 1);
        x.vertex(0, 7, -1, 32);
        x.vertex(0, -7, -1, 32);
        x.vertex(-3, 0, -1, 16);
        Check.due("came from above", x.came(0), 2);
        Check.due("came, STRAIGHT", x.came(1), -2);
        x.drop();
        x.drop();
        x.drop();
        x.drop();
        // (0, -6) and (6, -6): (6, -12), along (1, -2); the first two VERTICES are at the same POINT.
        x.track(-2, 4, 2, -4, 0, 0);
        x.vertex(0, 0, -1, 5);
        x.vertex(0, 0, 1, 4);
        x.vertex(-2, 4, -1, 64);
        x.vertex(3, -6, -1, 64);
        Check.due("came, IN there", x.came(1), -5);
        Check.due("came slanting", x.came(0), 4);
        TrackChamber y = new TrackChamber();
        y.track(0, 0, 2, -2, 4, 0);
        y.track(0, 0, 2, 2, 4, 0);
        y.track(-4, 0, 0, 4, 4, 0);
        y.track(0, 0, -2, -2, -4, 0);
        y.vertex(0, 0, -1, 3);
        y.vertex(4, 0, -1, 4);
        // PUSHES (0, -6) and (0, 6): the NEUTRAL stood still.
        Check.due("came, PUSH 0, 0", y.came(0), 0);
        Check.due("came, EVEN", y.even(0), 1);
        y.vertex(0, 0, 3, 1);
        Check.due("came, STATE", y.came(2), -5);
        Check.due("came vertex 3", y.came(3), -1);
        Check.due("came vertex -1", y.came(-1), -1);
        TrackChamber z = four();
        z.vertex(0, 0, 0, 8);
        Check.due("came, STATE ahead of NOT", z.came(0), -5);
        // Away from (0, 0): around (7, 3) by 2, TURN 1, at (5, 3) with PUSH (0, -6); VERTEX 0 above it, 2 below.
        TrackChamber w = new TrackChamber();
        w.track(5, 3, 7, 1, 9, 3);
        w.track(5, -20, 5, 0, 5, 20);
        w.track(2, 3, 3, 3, 9, 3);
        w.vertex(5, 9, -1, 2);
        w.vertex(5, 3, -1, 1);
        w.vertex(5, -9, -1, 2);
        w.vertex(2, 3, -1, 4);
        Check.due("came, away from 0, 0", w.came(1), 1);
    }

    private static void spoils() {
        TrackChamber x = four();
        Check.due("spoils, none", x.spoils(0), -1);
        x.track(0, 0, 2, -2, 4, 0);
        x.track(0, 0, 2, -2, 4, 0);
        // (0, -12) IN; OUT (0, -6), (6, -6), (0, -6): without 2 it is even.
        x.vertex(0, 0, 1, 1 + 4 + 16);
        Check.due("spoils", x.spoils(0), 2);
        x.vertex(0, 0, 1, 1 + 16);
        Check.due("spoils, even already", x.spoils(1), -2);
        x.vertex(0, 0, 0, 16 + 32);
        Check.due("spoils, of several the least", x.spoils(2), 4);
        x.vertex(0, 0, -1, 2);
        Check.due("spoils, the only one OUT, none IN", x.spoils(3), 1);
        x.drop();
        x.vertex(0, 0, 1, 4);
        Check.due("spoils, the only one OUT, one IN", x.spoils(3), -2);
        x.drop();
        x.vertex(0, 0, 1, 1 + 8 + 16);
        Check.due("spoils, STRAIGHT", x.spoils(3), -2);
        Check.due("spoils vertex 4", x.spoils(4), -1);
        Check.due("spoils vertex -1", x.spoils(-1), -1);
        TrackChamber y = new TrackChamber();
        y.track(0, 0, 2, -2, 4, 0);
        y.track(0, 0, 2, 2, 4, 0);
        y.track(0, 0, 4, 0, 4, 4);
        y.vertex(0, 0, -1, 7);
        Check.due("spoils, none IN", y.spoils(0), 2);
        y.vertex(0, 0, -1, 1);
        Check.due("spoils, TRACK 0", y.spoils(1), 0);
    }
}
