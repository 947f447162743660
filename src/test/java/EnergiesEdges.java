/** Boundary cases of promises 27 to 29. */
final class EnergiesEdges {
    private static final long NO = TrackChamber.NO;
    private static final int P = Chambers.P, E = Chambers.E, A = Chambers.A, B = Chambers.B, K = Chambers.K,
        M = Chambers.M, S = Chambers.S;

    private EnergiesEdges() {
    }

    static void run() {
        Edge.of(27, "the whole part of the root of (MASS times MASS plus STRENGTH of its PUSH there)",
            EnergiesEdges::energyWholePart);
        Edge.of(27, "ENERGY is told of any KIND.", EnergiesEdges::energyOfAnyKind);
        Edge.of(27, "NO: track, point, kind;", EnergiesEdges::energyBeyond);
        Edge.of(27, "not ON it,", EnergiesEdges::energyBeside);
        Edge.of(27, "STRAIGHT.", EnergiesEdges::energyOfStraight);
        ofHeat();
        Edge.of(29, "(1 .. 9; of several the least)", EnergiesEdges::evensLeastAndGreatest);
        Edge.of(29, "EVENS: FIELD by which HEAT of a VERTEX is least from 0", EnergiesEdges::evensFromZero);
        Edge.of(29, "In thought: EVENS:", EnergiesEdges::evensInThought);
        Edge.of(29, "BAD;", EnergiesEdges::evensBeyond);
        Edge.of(29, "STATE: none IN,", EnergiesEdges::evensNoneIn);
        Edge.of(29, "a KIND not told,", EnergiesEdges::evensNotTold);
        Edge.of(29, "no BALANCE.", EnergiesEdges::evensNoBalance);
    }

    private static void ofHeat() {
        Edge.of(28, "ENERGY of the one IN less those of all OUT (as told), together.", EnergiesEdges::heatOfAllOut);
        Edge.of(28, "HEAT below 0 is squared all the same.", EnergiesEdges::heatBelow);
        Edge.of(28, "the whole part of the root of (HEAT times HEAT less STRENGTH of LOST);",
            EnergiesEdges::massWholePart);
        Edge.of(28, "-1, if that is below 0.", EnergiesEdges::massBelow);
        Edge.of(28, "NEAREST (2; -1: MASS is -1).", EnergiesEdges::nearestNone);
        Edge.of(28, "the KIND of CHARGE 0 whose MASS differs least from that, of several the least.",
            EnergiesEdges::nearestOfSeveral);
        Edge.of(28, "NO: vertex, what;", EnergiesEdges::heatBeyond);
        Edge.of(28, "none IN,", EnergiesEdges::heatNoneIn);
        Edge.of(28, "a KIND not told,", EnergiesEdges::heatNotTold);
        Edge.of(28, "no BALANCE.", EnergiesEdges::heatNoBalance);
    }

    private static void energyWholePart() {
        TrackChamber x = new TrackChamber();
        x.field(1);
        x.track(0, 0, 1, 0, 0, 1);
        Chambers.under(x, 1);
        Chambers.square(x, 1);
        Chambers.under(x, 9);
        // STRENGTH 0: halves are cut.
        Check.due("v, STRENGTH 0", x.energy(0, 0, 0, Chambers.V), 0);
        Check.due("e, STRENGTH 0", x.energy(0, 0, 0, E), 1);
        Check.due("s, STRENGTH 0", x.energy(0, 0, 0, S), 120);
        // STRENGTH 1, 2.
        Check.due("v, 1", x.energy(1, 0, 0, Chambers.V), 1);
        Check.due("e, 2", x.energy(1, 0, 0, E), 1);
        Check.due("v, 2", x.energy(2, 0, 0, Chambers.V), 1);
        Check.due("e, 3", x.energy(2, 0, 0, E), 1);
        x.field(2);
        // STRENGTH 4, 8: 9 - 1 and 9.
        Check.due("v, 8", x.energy(2, 0, 0, Chambers.V), 2);
        Check.due("e, 9", x.energy(2, 0, 0, E), 3);
        Check.due("v, 4", x.energy(1, 0, 0, Chambers.V), 2);
        // STRENGTH 18 * 18: 324 and 14 * 14 are 520, 13 * 13 are 493; 22 * 22 are 484, 23 * 23 529.
        Check.due("a, 520", x.energy(3, 0, 0, A), 22);
        Check.due("c, 493", x.energy(3, 0, 0, Chambers.C), 22);
        x.field(9);
        // 81 * 81 = 6561 and 120 * 120: 20961, between 144 * 144 and 145 * 145.
        Check.due("s, 20961", x.energy(3, 0, 0, S), 144);
        // The flattest: cut to 126877, 120037.
        x.track(-20, -20, -1, -2, 19, 17);
        long square = 126877L * 126877 + 120037L * 120037;
        long root = x.energy(4, -20, -20, Chambers.V);
        Check.due("the greatest: not above", root * root <= square ? 1 : 0, 1);
        Check.due("the greatest: not below", (root + 1) * (root + 1) > square ? 1 : 0, 1);
    }

    private static void energyOfAnyKind() {
        TrackChamber x = new TrackChamber();
        // TURN 1 and -1, STRENGTH 36 each; a KIND of its own does not matter.
        Chambers.under(x, 2);
        Chambers.over(x, 2);
        x.kind(0, K);
        int[] due = {94, 94, 6, 6, 15, 15, 14, 49, 49, 50, 112, 120};
        for (int track = 0; track < 2; track++) {
            for (int kind = 0; kind < 12; kind++) {
                Check.due("TRACK " + track + ", kind " + kind, x.energy(track, 0, 0, kind), due[kind]);
            }
        }
        Check.due("its KIND stays", x.trackOf(0, 7), K);
        Check.due("none told stays", x.trackOf(1, 7), 12);
    }

    private static void energyBeyond() {
        Check.due("no TRACKS", new TrackChamber().energy(0, 0, 0, 0), NO);
        TrackChamber x = Chambers.eight();
        x.wipe();
        for (int v : new int[] {-1, 7, 8}) {
            Check.due("track " + v, x.energy(v, 0, 0, 0), NO);
        }
        for (int v : new int[] {-1, 12}) {
            Check.due("kind " + v, x.energy(0, 0, 0, v), NO);
        }
        for (int far : Chambers.FAR) {
            Check.due("track " + far, x.energy(far, 0, 0, 0), NO);
            Check.due("x " + far, x.energy(0, far, 0, 0), NO);
            Check.due("y " + far, x.energy(0, 0, far, 0), NO);
            Check.due("kind " + far, x.energy(0, 0, 0, far), NO);
        }
        // Around (18, 0) by 5: (22, 3) lies on the circle, but beyond the grid.
        x.track(13, 0, 15, 4, 14, 3);
        Check.due("beyond the grid on the circle", x.energy(7, 22, 3, 0), NO);
        x.wipe();
        x.track(0, 13, 4, 15, 3, 14);
        Check.due("beyond the grid on the circle, y", x.energy(7, 3, 22, 0), NO);
    }

    private static void energyBeside() {
        TrackChamber x = Chambers.eight();
        Check.due("beside", x.energy(0, 0, 1, P), NO);
        Check.due("the CENTRE", x.energy(0, 2, 2, P), NO);
        Check.due("ON it, far from a, b, c", x.energy(0, 0, 4, P), 94);
    }

    private static void energyOfStraight() {
        TrackChamber x = Chambers.eight();
        for (int kind = 0; kind < 12; kind++) {
            Check.due("kind " + kind, x.energy(5, 0, 0, kind), NO);
        }
    }

    /** VERTEX 0 at (0, 0): TRACK 0 IN, TRACK 1 OUT, as made, of these KINDS. */
    private static TrackChamber one(TrackChamber x, int in, int out) {
        x.vertex(0, 0, 0, 2);
        x.kind(0, in);
        x.kind(1, out);
        return x;
    }

    /** By a FIELD: r below 0 is TURN 1 with PUSH (0, FIELD times r), above 0 TURN -1 likewise. */
    private static TrackChamber two(int field, int in, int out) {
        TrackChamber x = new TrackChamber();
        x.field(field);
        for (int r : new int[] {in, out}) {
            int made = r < 0 ? Chambers.under(x, -r) : Chambers.over(x, r);
            Check.due("TRACK", made, x.count(1) - 1);
        }
        return x;
    }

    private static void heatOfAllOut() {
        TrackChamber x = new TrackChamber();
        for (int i = 0; i < 4; i++) {
            Chambers.under(x, 2);
            x.kind(i, A);
        }
        // ENERGY 15 each.
        x.vertex(0, 0, 3, 1);
        x.vertex(0, 0, 3, 1 + 2);
        x.vertex(0, 0, 3, 1 + 2 + 4);
        Check.due("one OUT", x.heat(0, 0), 0);
        Check.due("two OUT", x.heat(1, 0), -15);
        Check.due("three OUT", x.heat(2, 0), -30);
        x.kind(3, K);
        Check.due("another KIND IN", x.heat(2, 0), 49 - 45);
    }

    private static void heatBelow() {
        // p->s: ENERGY 94 and 120, LOST (0, -10): 26 * 26 - 100 is 24 * 24.
        TrackChamber x = one(two(5, -1, 1), P, S);
        Check.due("HEAT", x.heat(0, 0), -26);
        Check.due("MASS", x.heat(0, 1), 24);
        Check.due("NEAREST: c", x.heat(0, 2), Chambers.C);
        // p->s by FIELD 9: 94 and 121, LOST (0, -27): 27 * 27 - 27 * 27.
        TrackChamber y = one(two(9, -1, 2), P, S);
        Check.due("HEAT as great as LOST", y.heat(0, 0), -27);
        Check.due("MASS 0", y.heat(0, 1), 0);
        Check.due("NEAREST: v", y.heat(0, 2), Chambers.V);
    }

    private static void massWholePart() {
        // k->b by FIELD 9: 49 and 22, LOST (0, -27): 27 * 27 - 27 * 27.
        TrackChamber x = one(two(9, -1, 2), K, B);
        Check.due("HEAT", x.heat(0, 0), 27);
        Check.due("MASS, just 0", x.heat(0, 1), 0);
        // a->m by FIELD 7: 15 and 49, LOST (0, -14): 34 * 34 - 196 is 31 * 31 - 1.
        TrackChamber y = one(two(7, -1, 1), A, M);
        Check.due("HEAT", y.heat(0, 0), -34);
        Check.due("MASS, 1 below a square", y.heat(0, 1), 30);
        // p->s by FIELD 5: a square.
        Check.due("MASS, a square", one(two(5, -1, 1), P, S).heat(0, 1), 24);
    }

    private static void massBelow() {
        // p->p by FIELD 1: 94 both; (0, -1) IN, (1, -1) OUT: LOST (-1, 0), HEAT 0.
        TrackChamber x = new TrackChamber();
        x.field(1);
        Chambers.under(x, 1);
        Chambers.square(x, 1);
        one(x, P, P);
        Check.due("HEAT", x.heat(0, 0), 0);
        Check.due("1 below 0", x.heat(0, 1), -1);
        // a->a by FIELD 3, (0, -12) and (0, -6): 18 - 15, 9 - 36.
        TrackChamber y = one(two(3, -4, -2), A, A);
        Check.due("HEAT", y.heat(0, 0), 3);
        Check.due("27 below 0", y.heat(0, 1), -1);
        Check.due("0 is not below 0", one(two(9, -1, 2), K, B).heat(0, 1), 0);
    }

    private static void nearestNone() {
        TrackChamber x = one(two(3, -4, -2), A, A);
        Check.due("MASS", x.heat(0, 1), -1);
        Check.due("NEAREST", x.heat(0, 2), -1);
        TrackChamber y = one(two(9, -1, 2), K, B);
        Check.due("MASS 0", y.heat(0, 1), 0);
        Check.due("NEAREST to 0: v", y.heat(0, 2), Chambers.V);
    }

    private static void nearestOfSeveral() {
        // p->b by FIELD 7: 94 and 19, LOST (0, -21): 75 * 75 - 441 is 72 * 72, as far from n's 94 as from o's 50.
        TrackChamber x = one(two(7, -1, 2), P, B);
        Check.due("MASS between o and n", x.heat(0, 1), 72);
        Check.due("NEAREST, n", x.heat(0, 2), Chambers.N);
        // s->a by FIELD 3: 120 and 16, (0, 3) and (6, -6): 104 * 104 - 36 - 81, as far from n's 94 as from l's 112.
        TrackChamber y = new TrackChamber();
        Chambers.over(y, 1);
        Chambers.square(y, 2);
        one(y, S, A);
        Check.due("MASS between n and l", y.heat(0, 1), 103);
        Check.due("NEAREST, n", y.heat(0, 2), Chambers.N);
        // b->p by FIELD 9: 16 and 97, HEAT 81 below 0, LOST (0, 36): 72 once more.
        TrackChamber z = one(two(9, 1, -3), B, P);
        Check.due("MASS, HEAT below 0", z.heat(0, 1), 72);
        Check.due("NEAREST, n", z.heat(0, 2), Chambers.N);
        // Far above all MASSES: p IN by a flat circle.
        TrackChamber w = new TrackChamber();
        Chambers.under(w, 10);
        Chambers.under(w, 10);
        for (int i = 0; i < 2; i++) {
            Chambers.over(w, 10);
            w.kind(2 + i, S);
        }
        w.kind(0, P);
        w.kind(1, P);
        w.vertex(0, 0, 0, 2 + 4 + 8);
        Check.due("MASS above all: 98 - 98 - 123 - 123", w.heat(0, 0), -246);
        Check.due("MASS above all, LOST (0, -60)", w.heat(0, 1), 238);
        Check.due("NEAREST, l", w.heat(0, 2), Chambers.L);
    }

    private static void heatBeyond() {
        for (int what = 0; what < 3; what++) {
            Check.due("no VERTICES", new TrackChamber().heat(0, what), NO);
        }
        TrackChamber x = one(two(3, -4, -2), A, A);
        Check.due("heat(0, 0)", x.heat(0, 0), 3);
        for (int what : new int[] {-1, 3}) {
            Check.due("what " + what, x.heat(0, what), NO);
        }
        for (int vertex : new int[] {-1, 1}) {
            for (int what = 0; what < 3; what++) {
                Check.due("vertex " + vertex, x.heat(vertex, what), NO);
            }
        }
        for (int far : Chambers.FAR) {
            Check.due("vertex " + far, x.heat(far, 0), NO);
            Check.due("what " + far, x.heat(0, far), NO);
        }
    }

    private static void heatNoneIn() {
        TrackChamber x = one(two(3, -4, -2), A, A);
        x.vertex(0, 0, -1, 1);
        x.vertex(0, 0, -1, 1 + 2);
        for (int what = 0; what < 3; what++) {
            Check.due("one OUT, what " + what, x.heat(1, what), NO);
            Check.due("two OUT, what " + what, x.heat(2, what), NO);
        }
    }

    private static void heatNotTold() {
        TrackChamber x = one(two(3, -4, -2), A, A);
        Chambers.under(x, 2);
        x.vertex(0, 0, 0, 2 + 4);
        for (int what = 0; what < 3; what++) {
            Check.due("the last one OUT, what " + what, x.heat(1, what), NO);
        }
        x.kind(0, -1);
        for (int what = 0; what < 3; what++) {
            Check.due("the one IN, what " + what, x.heat(0, what), NO);
        }
        x.kind(0, A);
        Check.due("all told", x.heat(0, 0), 3);
        x.kind(1, -1);
        Check.due("the only one OUT", x.heat(0, 0), NO);
    }

    /** VERTICES with a STRAIGHT one IN, OUT, and both; all KINDS told. */
    private static TrackChamber straight() {
        TrackChamber x = Chambers.eight();
        x.kind(0, A);
        x.kind(1, A);
        x.kind(5, Chambers.N);
        x.kind(6, Chambers.N);
        x.vertex(0, 0, 5, 1);
        x.vertex(0, 0, 0, 2 + 32);
        x.vertex(0, 0, 5, 64);
        return x;
    }

    private static void heatNoBalance() {
        TrackChamber x = straight();
        for (int vertex = 0; vertex < 3; vertex++) {
            for (int what = 0; what < 3; what++) {
                Check.due("heat(" + vertex + ", " + what + ")", x.heat(vertex, what), NO);
            }
        }
    }

    private static void evensLeastAndGreatest() {
        // HEAT 5, -5, -15, .. by FIELD 1, 2, 3, ..: the least of two.
        TrackChamber x = new TrackChamber();
        Chambers.under(x, 1);
        Chambers.turned(x, 7);
        Check.due("5, -5 by 1, 2", one(x, A, E).evens(0), 1);
        // 106, .., 7, -7 by 8, 9: the least of these.
        TrackChamber y = new TrackChamber();
        Chambers.over(y, 1);
        Chambers.turned(y, 10);
        Check.due("7, -7 by 8, 9", one(y, S, E).evens(0), 8);
        // 93, 92, .., 85 by 1, 2, .. 9.
        Check.due("85 by 9", one(two(3, -1, 1), P, E).evens(0), 9);
        // a->a through the same POINTS: 0 by all.
        Check.due("0 by all", one(two(3, -1, -1), A, A).evens(0), 1);
        // a->a, 14 and 14 by 1, 2, then less: 0 by both of these.
        Check.due("0 by 1, 2", one(two(3, -1, -2), A, A).evens(0), 1);
        // p->b: 80 by 1 to 5, 79 by 6, 7, 78 by 8, 9.
        Check.due("78 by 8, 9", one(two(3, -1, 1), P, B).evens(0), 8);
    }

    private static void evensFromZero() {
        // a->e: 9, 3, -3, -8, ..: the least of two that are as far from 0.
        TrackChamber x = new TrackChamber();
        Chambers.under(x, 1);
        Chambers.turned(x, 4);
        Check.due("3, -3 by 2, 3", one(x, A, E).evens(0), 2);
        // a->e: 11, 9, 6, 3, 0, -2, ..
        TrackChamber y = new TrackChamber();
        Chambers.under(y, 1);
        Chambers.turned(y, 2);
        Check.due("0 by 5", one(y, A, E).evens(0), 5);
        // a->e: 12, 10, 8, 6, 4, 3, 1, 0, -2.
        Check.due("1, 0, -2 by 7, 8, 9", one(two(3, -1, 2), A, E).evens(0), 8);
        // a->e: 10, 6, 2, -3: least from 0, not the least.
        TrackChamber z = new TrackChamber();
        Chambers.under(z, 1);
        Chambers.turned(z, 3);
        Check.due("2, -3 by 3, 4", one(z, A, E).evens(0), 3);
    }

    private static void evensInThought() {
        TrackChamber x = one(two(4, -1, 2), A, E);
        int changes = x.count(4);
        long heat = x.heat(0, 0);
        Check.due("EVENS", x.evens(0), 8);
        Check.due("FIELD stays", x.count(0), 4);
        Check.due("no CHANGE", x.count(4), changes);
        Check.due("HEAT stays", x.heat(0, 0), heat);
        x.field(9);
        Check.due("EVENS by another FIELD", x.evens(0), 8);
    }

    private static void evensBeyond() {
        Check.due("no VERTICES", new TrackChamber().evens(0), -1);
        TrackChamber x = one(two(3, -4, -2), A, A);
        for (int vertex : new int[] {-1, 1}) {
            Check.due("vertex " + vertex, x.evens(vertex), -1);
        }
        for (int vertex : Chambers.FAR) {
            Check.due("vertex " + vertex, x.evens(vertex), -1);
        }
    }

    private static void evensNoneIn() {
        TrackChamber x = one(two(3, -4, -2), A, A);
        x.vertex(0, 0, -1, 1);
        x.vertex(0, 0, -1, 1 + 2);
        Check.due("one OUT", x.evens(1), -5);
        Check.due("two OUT", x.evens(2), -5);
    }

    private static void evensNotTold() {
        TrackChamber x = one(two(3, -4, -2), A, A);
        Chambers.under(x, 2);
        x.vertex(0, 0, 0, 2 + 4);
        Check.due("the last one OUT", x.evens(1), -5);
        x.kind(0, -1);
        Check.due("the one IN", x.evens(0), -5);
        x.kind(0, A);
        x.kind(1, -1);
        Check.due("the only one OUT", x.evens(0), -5);
        x.kind(1, A);
        Check.due("all told", x.evens(0), 1);
    }

    private static void evensNoBalance() {
        TrackChamber x = straight();
        for (int vertex = 0; vertex < 3; vertex++) {
            Check.due("evens(" + vertex + ")", x.evens(vertex), -5);
        }
    }
}
