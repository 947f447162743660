/** Promises 27 to 29. */
public final class EnergiesTest {
    private static final long NO = TrackChamber.NO;

    public static void main(String[] args) {
        energy();
        heat();
        nearest();
        heatRefused();
        evens();
        Check.end();
    }

    private static void energy() {
        TrackChamber x = new TrackChamber();
        Check.due("energy, none", x.energy(0, 0, 0, 0), NO);
        // PUSH (0, 6): STRENGTH 36.
        x.track(0, 0, 2, 2, 4, 0);
        int[] masses = {94, 94, 1, 0, 14, 14, 13, 49, 49, 50, 112, 120};
        int[] due = {94, 94, 6, 6, 15, 15, 14, 49, 49, 50, 112, 120};
        for (int kind = 0; kind < 12; kind++) {
            Check.due("energy of MASS " + masses[kind], x.energy(0, 0, 0, kind), due[kind]);
        }
        x.field(9);
        // (0, 18): the root of 13 * 13 + 324 is 22.2.
        Check.due("energy by FIELD 9", x.energy(0, 0, 0, 6), 22);
        Check.due("energy, exact root", x.energy(0, 4, 0, 3), 18);
        // CENTRE (3/2, 1/2), by FIELD 9 (-9/2, 27/2): cut (-4, 13), 185.
        x.track(0, 0, 1, 2, 3, 1);
        Check.due("energy, cut parts", x.energy(1, 0, 0, 3), 13);
        Check.due("energy, cut parts and MASS", x.energy(1, 0, 0, 4), 19);
        x.track(0, 0, 1, 1, 2, 2);
        Check.due("energy STRAIGHT", x.energy(2, 0, 0, 0), NO);
        Check.due("energy not ON", x.energy(0, 1, 1, 0), NO);
        Check.due("energy beyond the grid", x.energy(0, 0, 21, 0), NO);
        Check.due("energy kind 12", x.energy(0, 0, 0, 12), NO);
        Check.due("energy kind -1", x.energy(0, 0, 0, -1), NO);
        Check.due("energy track 3", x.energy(3, 0, 0, 0), NO);
        Check.due("energy track -1", x.energy(-1, 0, 0, 0), NO);
        Check.due("energy changes nothing", x.trackOf(0, 7), 12);
        // A flat circle, its CENTRE far away: the whole root of a great number.
        TrackChamber y = new TrackChamber();
        y.field(9);
        y.track(-20, -20, 0, 0, 19, 20);
        long px = y.push(0, 0, 0, 0, 0) / y.push(0, 0, 0, 0, 1);
        long py = y.push(0, 0, 0, 1, 0) / y.push(0, 0, 0, 1, 1);
        long root = y.energy(0, 0, 0, 3);
        long square = px * px + py * py;
        Check.due("energy, great: root not above", root * root <= square ? 1 : 0, 1);
        Check.due("energy, great: root not below", (root + 1) * (root + 1) > square ? 1 : 0, 1);
    }

    /** 0 TURN 1 with PUSH (0, -12) by FIELD 3 at (0, 0), 1, 2 TURN 1 with (0, -6), 3 TURN -1 with (0, 6). */
    private static TrackChamber some() {
        TrackChamber x = new TrackChamber();
        x.track(0, 0, 4, -4, 8, 0);
        x.track(0, 0, 2, -2, 4, 0);
        x.track(0, 0, 2, -2, 4, 0);
        x.track(0, 0, 2, 2, 4, 0);
        return x;
    }

    private static void heat() {
        TrackChamber x = some();
        x.vertex(0, 0, 0, 2);
        x.kind(0, 7);
        x.kind(1, 4);
        // k: root of 2401 + 144 is 50.4; a: root of 196 + 36 is 15.2; LOST (0, -6).
        Check.due("heat k->a", x.heat(0, 0), 35);
        // Root of 1225 - 36 is 34.4.
        Check.due("heat k->a MASS", x.heat(0, 1), 34);
        Check.due("heat k->a NEAREST", x.heat(0, 2), 9);
        x.kind(0, 4);
        x.kind(1, 7);
        // a: root of 196 + 144 is 18.4; k: root of 2401 + 36 is 49.3.
        Check.due("heat a->k below 0", x.heat(0, 0), -31);
        Check.due("heat a->k MASS", x.heat(0, 1), 30);
        Check.due("heat a->k NEAREST: 13 and 50 are 17 and 20 away", x.heat(0, 2), 6);
        x.kind(1, 4);
        // 18 - 15 = 3; 9 - 36 is below 0.
        Check.due("heat a->a", x.heat(0, 0), 3);
        Check.due("heat a->a MASS", x.heat(0, 1), -1);
        Check.due("heat a->a NEAREST", x.heat(0, 2), -1);
        x.vertex(0, 0, 0, 2 + 4);
        x.kind(2, 4);
        // 18 - 15 - 15; LOST 0, 0.
        Check.due("heat a->aa", x.heat(1, 0), -12);
        Check.due("heat a->aa MASS", x.heat(1, 1), 12);
        Check.due("heat a->aa NEAREST", x.heat(1, 2), 6);
        x.kind(0, 0);
        x.kind(1, 0);
        x.vertex(0, 0, 1, 4);
        x.kind(2, 0);
        Check.due("heat p->p", x.heat(2, 0), 0);
        Check.due("heat p->p MASS 0", x.heat(2, 1), 0);
        Check.due("heat p->p NEAREST v", x.heat(2, 2), 3);
    }

    private static void nearest() {
        // Many KINDS by growing FIELDS give many MASSES, told against the KINDS of CHARGE 0 one by one.
        int[] neutrals = {1, 3, 6, 9, 10};
        int[] masses = {94, 0, 13, 50, 112};
        int[] plus = {0, 4, 7};
        int[] minus = {2, 5, 8, 11};
        for (int f = 1; f <= 9; f++) {
            TrackChamber x = some();
            x.track(0, 0, 20, -20, 20, 20);
            x.vertex(0, 0, 4, 2 + 4 + 8);
            x.field(f);
            for (int i = 0; i < 36; i++) {
                x.kind(4, plus[i % 3]);
                x.kind(1, plus[i / 3 % 3]);
                x.kind(2, 4);
                x.kind(3, minus[i / 9]);
                long mass = x.heat(0, 1);
                int best = -1;
                for (int n = 0; n < 5 && mass >= 0; n++) {
                    if (best < 0 || Math.abs(masses[n] - mass) < Math.abs(masses[best] - mass)) {
                        best = n;
                    }
                }
                Check.due("NEAREST to " + mass, x.heat(0, 2), best < 0 ? -1 : neutrals[best]);
            }
        }
    }

    private static void heatRefused() {
        TrackChamber x = some();
        x.track(0, 0, 1, 1, 2, 2);
        Check.due("heat, no VERTEX", x.heat(0, 0), NO);
        Check.due("evens, no VERTEX", x.evens(0), -1);
        x.vertex(0, 0, 0, 2);
        x.vertex(0, 0, -1, 2);
        x.vertex(0, 0, 0, 16);
        x.vertex(0, 0, 4, 2);
        Check.due("heat, not told", x.heat(0, 0), NO);
        x.kind(0, 0);
        Check.due("heat, OUT not told", x.heat(0, 0), NO);
        Check.due("evens, OUT not told", x.evens(0), -5);
        x.kind(0, -1);
        x.kind(1, 0);
        Check.due("heat, IN not told", x.heat(0, 0), NO);
        Check.due("evens, IN not told", x.evens(0), -5);
        x.kind(0, 0);
        x.kind(4, 1);
        Check.due("heat", x.heat(0, 0), 0);
        Check.due("evens", x.evens(0), 1);
        Check.due("heat, none IN", x.heat(1, 0), NO);
        Check.due("evens, none IN", x.evens(1), -5);
        Check.due("heat, OUT STRAIGHT", x.heat(2, 0), NO);
        Check.due("evens, OUT STRAIGHT", x.evens(2), -5);
        Check.due("heat, IN STRAIGHT", x.heat(3, 0), NO);
        Check.due("evens, IN STRAIGHT", x.evens(3), -5);
        Check.due("heat what 3", x.heat(0, 3), NO);
        Check.due("heat what -1", x.heat(0, -1), NO);
        Check.due("heat vertex 4", x.heat(4, 0), NO);
        Check.due("heat vertex -1", x.heat(-1, 0), NO);
        Check.due("evens vertex 4", x.evens(4), -1);
        Check.due("evens vertex -1", x.evens(-1), -1);
    }

    private static void evens() {
        TrackChamber x = new TrackChamber();
        // By FIELD f IN (0, -10 f), OUT (0, -2 f): HEAT grows with FIELD and passes 0.
        x.track(0, 0, 10, -10, 20, 0);
        x.track(0, 0, 2, -2, 4, 0);
        x.vertex(0, 0, 0, 2);
        x.kind(0, 4);
        x.kind(1, 7);
        // By FIELD 4: 42 - 49 = -7; by 5: 51 - 50 = 1; by 6: 61 - 50 = 11.
        Check.due("evens in the middle", x.evens(0), 5);
        Check.due("evens changes no FIELD", x.count(0), 3);
        x.kind(1, 4);
        // 17 - 14 by 1, more by all others.
        Check.due("evens least", x.evens(0), 1);
        x.kind(1, 0);
        // By 9: 91 - 95 = -4.
        Check.due("evens greatest", x.evens(0), 9);
        x.vertex(0, 0, 1, 1);
        // The same the other way: HEAT has the other sign.
        Check.due("evens above 0", x.evens(1), 9);
        x.track(0, 0, 2, -2, 4, 0);
        x.kind(2, 0);
        x.vertex(0, 0, 1, 4);
        Check.due("evens, all alike", x.evens(2), 1);
        // e IN with (0, 10 f) against b with (0, 2 f): 10 - 14 by 1, 20 - 14 by 2.
        TrackChamber y = new TrackChamber();
        y.track(0, 0, 10, 10, 20, 0);
        y.track(0, 0, 2, 2, 4, 0);
        y.track(0, 0, 7, 7, 14, 0);
        y.vertex(0, 0, 0, 2);
        y.kind(0, 2);
        y.kind(1, 5);
        Check.due("evens 1 of -4, 6", y.evens(0), 1);
        // With (0, 7 f) IN: 7 - 14 by 1, 14 - 14 by 2.
        y.vertex(0, 0, 2, 2);
        y.kind(2, 2);
        Check.due("evens 2", y.evens(1), 2);
        // e against m: 40 - 49 by 4, 50 - 50 by 5.
        y.kind(1, 8);
        Check.due("evens 5", y.evens(0), 5);
    }
}
