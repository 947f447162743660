/** Chambers that the tests begin with. All PUSHES are those at (0, 0) by FIELD 3. */
final class Chambers {
    static final long NO = TrackChamber.NO;
    static final int P = 0, N = 1, E = 2, V = 3, A = 4, B = 5, C = 6, K = 7, M = 8, O = 9, L = 10, S = 11;
    /** Far off, and such as would be small numbers again if their upper bits were lost. */
    static final int[] FAR = {Integer.MIN_VALUE, Integer.MIN_VALUE + 1, -65536, -256, -100, 100, 256, 257, 65536, 65537,
        1 << 30, Integer.MAX_VALUE - 1, Integer.MAX_VALUE};

    private Chambers() {
    }

    /** TURN 1, around (r, 0): PUSH (0, -3 r). */
    static int under(TrackChamber x, int r) {
        return x.track(0, 0, r, -r, 2 * r, 0);
    }

    /** TURN -1, around (r, 0): PUSH (0, 3 r). */
    static int over(TrackChamber x, int r) {
        return x.track(0, 0, r, r, 2 * r, 0);
    }

    /** TURN 1, around (r, r): PUSH (3 r, -3 r). */
    static int square(TrackChamber x, int r) {
        return x.track(0, 0, 2 * r, 0, 2 * r, 2 * r);
    }

    /** TURN -1, around (r, r): PUSH (-3 r, 3 r). */
    static int turned(TrackChamber x, int r) {
        return x.track(0, 0, 0, 2 * r, 2 * r, 2 * r);
    }

    /** STRAIGHT, y is 0. */
    static int line(TrackChamber x) {
        return x.track(0, 0, 1, 0, 2, 0);
    }

    /** TRACKS through (0, 0): 0, 1, 2 of TURN 1, 3, 4 of TURN -1, 5, 6, 7 STRAIGHT. */
    static TrackChamber eight() {
        TrackChamber x = new TrackChamber();
        for (int i = 0; i < 3; i++) {
            square(x, 2);
        }
        for (int i = 0; i < 2; i++) {
            turned(x, 2);
        }
        for (int i = 0; i < 3; i++) {
            line(x);
        }
        return x;
    }

    /** Eight TRACKS, four VERTICES, some KINDS, a text, a print, LISTS 0 and 1, THE IMAGE, eight CHANGES. */
    static TrackChamber full() {
        TrackChamber x = eight();
        x.kind(0, P);
        x.kind(3, B);
        x.kind(5, N);
        x.vertex(0, 0, -1, 1 + 8);
        x.vertex(0, 0, 0, 2 + 4 + 8);
        x.image();
        x.vertex(0, 0, 3, 32);
        x.vertex(4, 4, 1, 16);
        x.field(7);
        x.prints(1);
        x.list(0, 24);
        x.list(1, 5);
        x.set(0, 23, -7);
        x.set(1, 4, 9);
        Check.feed(x, "f2;k0a");
        return x;
    }
}
