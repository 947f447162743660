/** Promises 1 to 12. */
public final class PictureTest {
    private static final long NO = TrackChamber.NO;

    public static void main(String[] args) {
        newObject();
        field();
        track();
        kind();
        vertex();
        dropAndWipe();
        trackOfAndBend();
        vertexOf();
        numbers();
        count();
        Check.end();
    }

    private static void newObject() {
        TrackChamber x = new TrackChamber();
        int[] due = {3, 0, 0, 0, 0, 0, 0};
        for (int what = 0; what < due.length; what++) {
            Check.due("new: count(" + what + ")", x.count(what), due[what]);
        }
        Check.due("new: get", x.get(0, 0), NO);
        Check.due("new: back", x.back(), -5);
        Check.due("new: undo", x.undo(), -2);
        Check.due("new: paper", x.paper(0), -2);
    }

    private static void field() {
        TrackChamber x = new TrackChamber();
        Check.due("field(0)", x.field(0), -1);
        Check.due("field(10)", x.field(10), -1);
        Check.due("field(-1)", x.field(-1), -1);
        Check.due("field min", x.field(Integer.MIN_VALUE), -1);
        Check.due("field, refused ones are no CHANGES", x.count(4), 0);
        Check.due("field(1)", x.field(1), 3);
        Check.due("field(9)", x.field(9), 1);
        Check.due("field(9) again", x.field(9), 9);
        Check.due("field, CHANGES", x.count(4), 3);
        Check.due("field, is", x.count(0), 9);
    }

    private static void track() {
        TrackChamber x = new TrackChamber();
        int[] far = {21, -21, Integer.MAX_VALUE, Integer.MIN_VALUE};
        for (int v : far) {
            Check.due("track ax", x.track(v, 0, 1, 1, 2, 0), -1);
            Check.due("track ay", x.track(0, v, 1, 1, 2, 0), -1);
            Check.due("track bx", x.track(0, 0, v, 1, 2, 0), -1);
            Check.due("track by", x.track(0, 0, 1, v, 2, 0), -1);
            Check.due("track cx", x.track(0, 0, 1, 1, v, 0), -1);
            Check.due("track cy", x.track(0, 0, 1, 1, 2, v), -1);
        }
        Check.due("track a is b", x.track(1, 1, 1, 1, 2, 0), -5);
        Check.due("track a is c", x.track(1, 1, 2, 0, 1, 1), -5);
        Check.due("track b is c", x.track(2, 0, 1, 1, 1, 1), -5);
        Check.due("track BAD ahead of STATE", x.track(21, 1, 21, 1, 1, 1), -1);
        Check.due("track, none came", x.count(1), 0);
        for (int i = 0; i < 8; i++) {
            Check.due("track " + i, x.track(-20, -20, 20, 20, 20 - i, -20), i);
        }
        Check.due("track, CHANGES", x.count(4), 8);
        Check.due("track 9th", x.track(0, 0, 1, 1, 2, 0), -3);
        Check.due("track 9th, alike", x.track(0, 0, 0, 0, 2, 0), -5);
        Check.due("track 9th, beyond", x.track(0, 0, 0, 0, 22, 0), -1);
        Check.due("track, KIND at first", x.trackOf(7, 7), 12);
    }

    private static void kind() {
        TrackChamber x = new TrackChamber();
        Check.due("kind, no TRACK", x.kind(0, 0), -1);
        x.track(0, 0, 4, 0, 4, 4);
        x.track(0, 0, 0, 4, 4, 4);
        x.track(0, 0, 1, 0, 2, 0);
        int[][] fitting = {{0, 4, 7}, {2, 5, 8, 11}, {1, 3, 6, 9, 10}};
        for (int track = 0; track < 3; track++) {
            int before = 12;
            for (int kind = 0; kind < 12; kind++) {
                boolean fits = false;
                for (int one : fitting[track]) {
                    fits |= one == kind;
                }
                Check.due("kind(" + track + ", " + kind + ")", x.kind(track, kind), fits ? before : -5);
                before = fits ? kind : before;
                Check.due("kind is", x.trackOf(track, 7), before);
            }
            Check.due("kind(.., -1)", x.kind(track, -1), before);
            Check.due("kind(.., -1) again", x.kind(track, -1), 12);
        }
        Check.due("kind, 12", x.kind(0, 12), -1);
        Check.due("kind, -2", x.kind(0, -2), -1);
        Check.due("kind, track -1", x.kind(-1, 0), -1);
        Check.due("kind, track 3", x.kind(3, 0), -1);
        x.kind(2, 10);
        x.wipe();
        x.track(0, 0, 1, 0, 2, 0);
        Check.due("kind of a new TRACK in an old one's place", x.trackOf(2, 7), 12);
    }

    private static void vertex() {
        TrackChamber x = new TrackChamber();
        Check.due("vertex, no TRACKS", x.vertex(0, 0, -1, 1), -1);
        x.track(0, 0, 4, 0, 4, 4);
        x.track(0, 0, 0, 4, 4, 4);
        x.track(0, 0, 2, 2, 4, 0);
        x.track(0, 0, 2, -2, 4, 0);
        x.track(0, 0, 1, 1, 5, 5);
        Check.due("vertex x", x.vertex(21, 0, -1, 1), -1);
        Check.due("vertex y", x.vertex(0, -21, -1, 1), -1);
        Check.due("vertex in -2", x.vertex(0, 0, -2, 1), -1);
        Check.due("vertex in 5", x.vertex(0, 0, 5, 1), -1);
        Check.due("vertex outs none", x.vertex(0, 0, 0, 0), -1);
        Check.due("vertex outs of no TRACK", x.vertex(0, 0, 0, 32), -1);
        Check.due("vertex outs below 0", x.vertex(0, 0, -1, -1), -1);
        Check.due("vertex outs least", x.vertex(0, 0, -1, Integer.MIN_VALUE), -1);
        Check.due("vertex outs of no TRACK, too", x.vertex(0, 0, 0, 34), -1);
        Check.due("vertex four OUT", x.vertex(0, 0, 0, 30), -1);
        Check.due("vertex IN is OUT", x.vertex(0, 0, 1, 6), -1);
        Check.due("vertex IN not ON", x.vertex(4, 4, 2, 1), -5);
        Check.due("vertex OUT not ON", x.vertex(4, 4, 0, 4), -5);
        Check.due("vertex one OUT of two not ON", x.vertex(4, 4, 0, 6), -5);
        Check.due("vertex BAD ahead of STATE", x.vertex(3, 4, 0, 1), -1);
        Check.due("vertex, none came", x.count(2), 0);
        Check.due("vertex 0", x.vertex(0, 0, 4, 14), 0);
        Check.due("vertex 1", x.vertex(0, 0, 4, 14), 1);
        Check.due("vertex 2, far side of the circle", x.vertex(4, 0, 0, 2), 2);
        Check.due("vertex 3, far on the line", x.vertex(-20, -20, -1, 16), 3);
        Check.due("vertex 5th", x.vertex(0, 0, 4, 14), -3);
        Check.due("vertex 5th, not ON", x.vertex(1, 0, 4, 14), -5);
        Check.due("vertex 5th, BAD", x.vertex(1, 0, 4, 0), -1);
        Check.due("vertex, CHANGES", x.count(4), 8);
    }

    private static void dropAndWipe() {
        TrackChamber x = new TrackChamber();
        Check.due("drop, none", x.drop(), -5);
        Check.due("wipe, none", x.wipe(), -5);
        x.track(0, 0, 4, 0, 4, 4);
        x.track(0, 0, 0, 4, 4, 4);
        x.track(0, 0, 2, 2, 4, 0);
        x.vertex(0, 0, 2, 1);
        x.vertex(0, 0, 0, 2);
        Check.due("wipe, IN a VERTEX", x.wipe(), -5);
        Check.due("drop", x.drop(), 1);
        Check.due("wipe, still IN one", x.wipe(), -5);
        Check.due("drop to none", x.drop(), 0);
        Check.due("drop beyond", x.drop(), -5);
        x.vertex(0, 0, -1, 4);
        Check.due("wipe, OUT of a VERTEX", x.wipe(), -5);
        x.drop();
        x.vertex(0, 0, -1, 3);
        Check.due("wipe, VERTEX of others", x.wipe(), 2);
        Check.due("wipe, now OUT", x.wipe(), -5);
        x.drop();
        Check.due("wipe to 1", x.wipe(), 1);
        Check.due("wipe to 0", x.wipe(), 0);
        Check.due("wipe beyond", x.wipe(), -5);
    }

    private static void trackOfAndBend() {
        TrackChamber x = new TrackChamber();
        Check.due("trackOf, none", x.trackOf(0, 0), -1);
        Check.due("bend, none", x.bend(0), NO);
        x.track(-7, 2, 13, -20, 20, -3);
        int[] due = {-7, 2, 13, -20, 20, -3, 2, 12};
        for (int what = 0; what < due.length; what++) {
            Check.due("trackOf(0, " + what + ")", x.trackOf(0, what), due[what]);
        }
        Check.due("bend", x.bend(0), 20 * -5 + 22 * 27);
        x.track(20, -3, 13, -20, -7, 2);
        Check.due("bend the other way", x.bend(1), -494);
        Check.due("turn -1", x.trackOf(1, 6), 0);
        x.track(-20, -20, 20, 20, 0, 0);
        Check.due("bend STRAIGHT", x.bend(2), 0);
        Check.due("turn 0", x.trackOf(2, 6), 1);
        Check.due("trackOf what 8", x.trackOf(0, 8), -1);
        Check.due("trackOf what -1", x.trackOf(1, -1), -1);
        Check.due("trackOf track 3", x.trackOf(3, 0), -1);
        Check.due("trackOf track -1", x.trackOf(-1, 6), -1);
        Check.due("bend -1", x.bend(-1), NO);
        Check.due("bend 3", x.bend(3), NO);
    }

    private static void vertexOf() {
        TrackChamber x = new TrackChamber();
        Check.due("vertexOf, none", x.vertexOf(0, 0), -1);
        x.track(0, 0, 4, 0, 4, 4);
        x.track(0, 0, 0, 4, 4, 4);
        x.track(-20, 20, 0, 0, 4, -4);
        x.vertex(4, 0, 1, 1);
        x.vertex(-20, 20, -1, 4);
        int[][] due = {{24, 20, 1, 1}, {0, 40, 8, 4}};
        for (int v = 0; v < 2; v++) {
            for (int what = 0; what < 4; what++) {
                Check.due("vertexOf(" + v + ", " + what + ")", x.vertexOf(v, what), due[v][what]);
            }
        }
        Check.due("vertexOf what 4", x.vertexOf(0, 4), -1);
        Check.due("vertexOf what -1", x.vertexOf(0, -1), -1);
        Check.due("vertexOf 2", x.vertexOf(2, 0), -1);
        Check.due("vertexOf -1", x.vertexOf(-1, 0), -1);
    }

    private static void numbers() {
        int[][] due = {
            {1, 1, 0, 0, 94}, {0, 1, 0, 0, 94}, {-1, 0, 1, 0, 1}, {0, 0, 1, 0, 0}, {1, 0, 0, 0, 14},
            {-1, 0, 0, 0, 14}, {0, 0, 0, 0, 13}, {1, 0, 0, 1, 49}, {-1, 0, 0, -1, 49}, {0, 0, 0, 1, 50},
            {0, 1, 0, -1, 112}, {-1, 1, 0, -1, 120}};
        TrackChamber x = new TrackChamber();
        for (int kind = 0; kind < 12; kind++) {
            for (int what = 0; what < 5; what++) {
                int more = what < 4 ? 1 : 0;
                Check.due("numbers(" + kind + ", " + what + ")", x.numbers(kind, what), due[kind][what] + more);
            }
        }
        Check.due("numbers kind 12", x.numbers(12, 0), -1);
        Check.due("numbers kind -1", x.numbers(-1, 4), -1);
        Check.due("numbers what 5", x.numbers(0, 5), -1);
        Check.due("numbers what -1", x.numbers(5, -1), -1);
    }

    private static void count() {
        TrackChamber x = new TrackChamber();
        x.field(7);
        x.track(0, 0, 4, 0, 4, 4);
        x.track(0, 0, 0, 4, 4, 4);
        x.track(0, 0, 2, 2, 4, 0);
        x.kind(0, 0);
        x.kind(2, 2);
        x.vertex(0, 0, -1, 3);
        x.feed('f');
        x.feed('x');
        x.prints(0);
        int[] due = {7, 3, 1, 2, 7, 2, 4};
        for (int what = 0; what < due.length; what++) {
            Check.due("count(" + what + ")", x.count(what), due[what]);
        }
        x.kind(2, -1);
        Check.due("count told", x.count(3), 1);
        Check.due("count 8 CHANGES", x.count(4), 8);
        x.field(1);
        Check.due("count 8 CHANGES at most", x.count(4), 8);
        Check.due("count(7)", x.count(7), -1);
        Check.due("count(-1)", x.count(-1), -1);
    }
}
