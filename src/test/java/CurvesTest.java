/** Promises 13 to 18. */
public final class CurvesTest {
    private static final long NO = TrackChamber.NO;

    public static void main(String[] args) {
        centre();
        on();
        meets();
        push();
        fitsAndThrough();
        Check.end();
    }

    private static void fraction(String call, long above, long below, long wantAbove, long wantBelow) {
        Check.due(call + " above", above, wantAbove);
        Check.due(call + " below", below, wantBelow);
    }

    private static void centre() {
        TrackChamber x = new TrackChamber();
        Check.due("centre, none", x.centre(0, 0, 0), NO);
        // Through (0, 0), (1, 0), (0, 2): CENTRE (1/2, 1).
        x.track(0, 0, 1, 0, 0, 2);
        fraction("centre x", x.centre(0, 0, 0), x.centre(0, 0, 1), 1, 2);
        fraction("centre y", x.centre(0, 1, 0), x.centre(0, 1, 1), 1, 1);
        // Turned the other way, and below 0.
        x.track(0, 0, 0, -2, -1, 0);
        fraction("centre x below 0", x.centre(1, 0, 0), x.centre(1, 0, 1), -1, 2);
        fraction("centre y below 0", x.centre(1, 1, 0), x.centre(1, 1, 1), -1, 1);
        // Around (0, 0).
        x.track(5, 0, 3, 4, -4, 3);
        fraction("centre x 0", x.centre(2, 0, 0), x.centre(2, 0, 1), 0, 1);
        fraction("centre y 0", x.centre(2, 1, 0), x.centre(2, 1, 1), 0, 1);
        // (0, 0), (1, 2), (3, 1): BEND -5; x is (1 * 5 - 2 * 10) / -10, y is (1 * 10 - 3 * 5) / -10.
        x.track(0, 0, 1, 2, 3, 1);
        fraction("centre x halves", x.centre(3, 0, 0), x.centre(3, 0, 1), 3, 2);
        fraction("centre y halves", x.centre(3, 1, 0), x.centre(3, 1, 1), 1, 2);
        // A flat one from corner to corner has its CENTRE far beyond the grid.
        x.track(-20, -20, 0, 1, 20, 20);
        fraction("centre x afar", x.centre(4, 0, 0), x.centre(4, 0, 1), 799, 2);
        fraction("centre y afar", x.centre(4, 1, 0), x.centre(4, 1, 1), -799, 2);
        x.track(0, 0, 5, 0, 10, 0);
        Check.due("centre STRAIGHT", x.centre(5, 0, 0), NO);
        Check.due("centre axis 2", x.centre(0, 2, 0), NO);
        Check.due("centre axis -1", x.centre(0, -1, 0), NO);
        Check.due("centre part 2", x.centre(0, 0, 2), NO);
        Check.due("centre part -1", x.centre(0, 0, -1), NO);
        Check.due("centre track -1", x.centre(-1, 0, 0), NO);
        Check.due("centre track 6", x.centre(6, 0, 0), NO);
    }

    private static void on() {
        for (int i = -20; i <= 20; i++) {
            // A new object for each x: one object's answers are promised for 512 calls.
            TrackChamber x = new TrackChamber();
            x.track(5, 0, 3, 4, 0, 5);
            // b is not between a and c, and the line goes on beyond them.
            x.track(2, 1, 6, 3, 4, 2);
            for (int j = -20; j <= 20; j++) {
                Check.due("on(0, " + i + ", " + j + ")", x.on(0, i, j), i * i + j * j == 25 ? 1 : 0);
                Check.due("on(1, " + i + ", " + j + ")", x.on(1, i, j), i == 2 * j ? 1 : 0);
            }
        }
        TrackChamber x = new TrackChamber();
        Check.due("on, none", x.on(0, 0, 0), -1);
        x.track(5, 0, 3, 4, 0, 5);
        x.track(2, 1, 6, 3, 4, 2);
        x.track(3, -20, 3, 0, 3, 20);
        Check.due("on, upright line", x.on(2, 3, 7), 1);
        Check.due("on, beside it", x.on(2, 4, 7), 0);
        Check.due("on, x 21", x.on(0, 21, 0), -1);
        Check.due("on, y -21", x.on(0, 0, -21), -1);
        Check.due("on, on the line, but beyond the grid", x.on(2, 3, 21), -1);
        Check.due("on, track 3", x.on(3, 0, 0), -1);
        Check.due("on, track -1", x.on(-1, 0, 0), -1);
        Check.due("on, greatest", x.on(0, Integer.MAX_VALUE, Integer.MIN_VALUE), -1);
    }

    private static void meets() {
        TrackChamber x = new TrackChamber();
        x.track(5, 0, 3, 4, 0, 5);
        x.track(-5, 0, -3, -4, 4, 3);
        x.track(-7, 1, 0, 8, 1, 9);
        x.track(10, -10, 10, 0, 10, 10);
        x.track(-9, 0, 0, 0, 9, 0);
        x.track(10, 10, 10, 11, 10, 20);
        Check.due("meets, one circle", x.meets(0, 1, -1), 12);
        int[] due = {15020, 16017, 16023, 17016, 17024, 20015, 20025, 23016, 23024, 24017, 24023, 25020};
        for (int k = 0; k < due.length; k++) {
            Check.due("meets(0, 1, " + k + ")", x.meets(0, 1, k), due[k]);
            Check.due("meets(1, 0, " + k + ")", x.meets(1, 0, k), due[k]);
        }
        Check.due("meets, no 12th", x.meets(0, 1, 12), -2);
        Check.due("meets, no such one ever", x.meets(0, 1, Integer.MAX_VALUE), -2);
        Check.due("meets, circle and line afar", x.meets(0, 2, -1), 0);
        Check.due("meets, no 0th", x.meets(0, 2, 0), -2);
        Check.due("meets, two lines", x.meets(3, 4, -1), 1);
        Check.due("meets, two lines at", x.meets(3, 4, 0), 30020);
        Check.due("meets, one line", x.meets(3, 5, -1), 41);
        Check.due("meets, one line first", x.meets(3, 5, 0), 30000);
        Check.due("meets, one line last", x.meets(5, 3, 40), 30040);
        Check.due("meets, one line behind", x.meets(5, 3, 41), -2);
        Check.due("meets, circle and line", x.meets(0, 4, -1), 2);
        Check.due("meets, circle and line, 1", x.meets(4, 0, 1), 25020);
        x.track(20, -20, 20, 3, 20, 20);
        x.track(-20, 20, 0, 20, 20, 20);
        Check.due("meets in the grid's corner", x.meets(6, 7, 0), 40040);
        Check.due("meets itself", x.meets(2, 2, -1), -1);
        Check.due("meets k -2", x.meets(0, 1, -2), -1);
        Check.due("meets one -1", x.meets(-1, 1, 0), -1);
        Check.due("meets one 8", x.meets(8, 1, 0), -1);
        Check.due("meets other 8", x.meets(1, 8, 0), -1);
        Check.due("meets other -1", x.meets(1, -1, 0), -1);
    }

    private static void push() {
        TrackChamber x = new TrackChamber();
        Check.due("push, none", x.push(0, 0, 0, 0, 0), NO);
        // CENTRE (3/2, 1/2), TURN -1.
        x.track(0, 0, 1, 2, 3, 1);
        fraction("push x", x.push(0, 0, 0, 0, 0), x.push(0, 0, 0, 0, 1), -3, 2);
        fraction("push y", x.push(0, 0, 0, 1, 0), x.push(0, 0, 0, 1, 1), 9, 2);
        fraction("push x at c", x.push(0, 3, 1, 0, 0), x.push(0, 3, 1, 0, 1), 3, 2);
        fraction("push y at c", x.push(0, 3, 1, 1, 0), x.push(0, 3, 1, 1, 1), -9, 2);
        x.field(4);
        fraction("push x by FIELD 4", x.push(0, 0, 0, 0, 0), x.push(0, 0, 0, 0, 1), -2, 1);
        // The same circle passed the other way.
        x.track(3, 1, 1, 2, 0, 0);
        fraction("push x other way", x.push(1, 0, 0, 0, 0), x.push(1, 0, 0, 0, 1), 2, 1);
        fraction("push y other way", x.push(1, 0, 0, 1, 0), x.push(1, 0, 0, 1, 1), -6, 1);
        x.track(0, 0, 2, 2, 4, 0);
        fraction("push x 0", x.push(2, 0, 0, 0, 0), x.push(2, 0, 0, 0, 1), 0, 1);
        x.track(0, 0, 1, 1, 2, 2);
        Check.due("push STRAIGHT", x.push(3, 0, 0, 0, 0), NO);
        Check.due("push not ON", x.push(0, 1, 1, 0, 0), NO);
        Check.due("push beyond the grid", x.push(0, 0, 21, 0, 0), NO);
        Check.due("push axis 2", x.push(0, 0, 0, 2, 0), NO);
        Check.due("push axis -1", x.push(0, 0, 0, -1, 0), NO);
        Check.due("push part 2", x.push(0, 0, 0, 0, 2), NO);
        Check.due("push part -1", x.push(0, 0, 0, 0, -1), NO);
        Check.due("push track 4", x.push(4, 0, 0, 0, 0), NO);
        Check.due("push track -1", x.push(-1, 0, 0, 0, 0), NO);
    }

    private static void fitsAndThrough() {
        TrackChamber x = new TrackChamber();
        Check.due("through, none", x.through(), -2);
        Check.due("fits, none", x.fits(0, 0), 0);
        x.track(5, 0, 3, 4, 0, 5);
        Check.due("through one", x.through(), 10000 + 100 * 15 + 20);
        x.track(-20, 4, 0, 4, 20, 4);
        Check.due("through two: least x", x.through(), 20000 + 100 * 17 + 24);
        Check.due("fits both", x.fits(-3, 4), 3);
        Check.due("fits one", x.fits(20, 4), 2);
        Check.due("fits nobody", x.fits(1, 1), 0);
        x.track(3, -20, 3, 0, 3, 20);
        Check.due("through three", x.through(), 30000 + 100 * 23 + 24);
        x.track(3, -19, 3, 0, 3, 20);
        x.track(3, -18, 3, 0, 3, 20);
        x.track(3, -17, 3, 0, 3, 20);
        x.track(-20, -20, -20, 20, -20, 0);
        x.track(-20, -20, -20, 20, -20, 0);
        Check.due("fits six", x.fits(3, 4), 63);
        Check.due("fits last two", x.fits(-20, 20), 192);
        Check.due("fits last two and a line", x.fits(-20, 4), 194);
        Check.due("through six", x.through(), 60000 + 100 * 23 + 24);
        Check.due("fits x", x.fits(21, 0), -1);
        Check.due("fits y", x.fits(0, 21), -1);
        Check.due("fits -x", x.fits(-21, 0), -1);
        Check.due("fits -y", x.fits(0, -21), -1);
        TrackChamber y = new TrackChamber();
        y.track(3, -20, 3, 0, 3, 20);
        Check.due("through an upright line: least y", y.through(), 10000 + 100 * 23);
        TrackChamber z = new TrackChamber();
        z.track(20, -20, 20, 3, 20, 20);
        z.track(-20, 20, 0, 20, 20, 20);
        Check.due("through the grid's last POINT", z.through(), 20000 + 100 * 40 + 40);
    }
}
