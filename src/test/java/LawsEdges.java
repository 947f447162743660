/** Boundary cases of promises 23 to 26. */
final class LawsEdges {
    private static final int P = Chambers.P, N = Chambers.N, E = Chambers.E, V = Chambers.V, A = Chambers.A,
        B = Chambers.B, C = Chambers.C, K = Chambers.K, M = Chambers.M, O = Chambers.O, L = Chambers.L, S = Chambers.S;

    private LawsEdges() {
    }

    static void run() {
        Edge.of(23, "0 STRONG: CHARGE, HEAVY, LIGHT, STRANGE are as many IN as OUT, together;", LawsEdges::strong);
        Edge.of(23, "1 FAINT: the same, but STRANGE may differ by 1;", LawsEdges::faint);
        Edge.of(23, "2 LOOSE: CHARGE, HEAVY alone.", LawsEdges::loose);
        Edge.of(23, "against those OUT and, if told so, one more KIND that is LOST,", LawsEdges::holdsWithLost);
        Edge.of(23, "(-1: none): 1, 0.", LawsEdges::holdsWithoutLost);
        Edge.of(23, "holds(): with one IN neutral does not matter.", LawsEdges::holdsNeutralDoesNotMatter);
        Edge.of(23, "BAD: vertex, law, lost,", LawsEdges::holdsBeyond);
        Edge.of(23, "LOST, of CHARGE 0 (none: -1).", LawsEdges::holdsLostOfCharge);
        Edge.of(23, "neutral (if none is IN);", LawsEdges::holdsNeutralBeyond);
        Edge.of(23, "STATE: a KIND is not told.", LawsEdges::holdsNotTold);
        ofNames();
        ofCalls();
        Edge.of(26, "all of whose KINDS are told", LawsEdges::restNotTold);
        Edge.of(26, "at which it holds without a LOST one", LawsEdges::restWithoutLost);
        Edge.of(26, "(with none IN: by some NEUTRAL)", LawsEdges::restSomeNeutral);
        Edge.of(26, "REST by a LAW (bits).", LawsEdges::restNoneAndAll);
        Edge.of(26, "BAD.", LawsEdges::restBeyond);
    }

    private static void ofNames() {
        Edge.of(24, "names() with k -1 and no way: 0;", LawsEdges::namesNoWay);
        Edge.of(24, "by a VERTEX all of whose KINDS are told, one IN, without LOST one, there is one way or none,"
            + " and no k-th.", LawsEdges::namesAllTold);
        Edge.of(24, "how many ways (k -1), else the k-th KIND of the first.", LawsEdges::namesLastOfFirst);
        Edge.of(24, "(the one IN first, then those OUT by numbers; three at most)", LawsEdges::namesInFirst);
        Edge.of(24, "then of the NEUTRAL (if none is IN), then of the LOST one (if asked with one),",
            LawsEdges::namesNeutralThenLost);
        Edge.of(24, "all KINDS that fit TURN (0 for NEUTRAL, LOST one)", LawsEdges::namesFitTurn);
        Edge.of(24, "(all by least numbers, the first of these counting most)", LawsEdges::namesLeastNumbers);
        Edge.of(24, "(lost 1: with a LOST one, 0: without)", LawsEdges::namesWithAndWithoutLost);
        Edge.of(24, "BAD: vertex, law, lost,", LawsEdges::namesBeyond);
        Edge.of(24, "k below -1;", LawsEdges::namesBelow);
        Edge.of(24, "STATE: more than three not told;", LawsEdges::namesFourNotTold);
        Edge.of(24, "Three not told are TRACKS; a NEUTRAL, a LOST one are not counted with them,",
            LawsEdges::namesThreeNotTold);
        Edge.of(24, "NOT: there is no way (for k of 0 and more),", LawsEdges::namesNoWayNoKth);
        Edge.of(24, "no k-th.", LawsEdges::namesNoKth);
    }

    private static void ofCalls() {
        Edge.of(25, "The first way of NAMING comes to the TRACKS not told: how many TRACKS.",
            LawsEdges::callsOneToThree);
        Edge.of(25, "calls() with nobody not told: 0, and a CHANGE.", LawsEdges::callsNobody);
        Edge.of(25, "nor does calls() count or keep them.", LawsEdges::callsKeepsTracksAlone);
        Edge.of(25, "BAD: vertex, law, lost;", LawsEdges::callsBeyond);
        Edge.of(25, "STATE: more than three not told;", LawsEdges::callsFourNotTold);
        Edge.of(25, "NOT: there is no way.", LawsEdges::callsNoWay);
    }

    /** VERTEX 0, none IN, two OUT of TURN 1 and -1. */
    private static TrackChamber pair(int plus, int minus) {
        TrackChamber x = Chambers.eight();
        x.kind(0, plus);
        x.kind(3, minus);
        x.vertex(0, 0, -1, 1 + 8);
        return x;
    }

    /** VERTEX 0, one IN of TURN -1, OUT one of TURN -1 and a STRAIGHT one. */
    private static TrackChamber decay(int in, int out, int straight) {
        TrackChamber x = Chambers.eight();
        x.kind(4, in);
        x.kind(3, out);
        x.kind(5, straight);
        x.vertex(0, 0, 4, 8 + 32);
        return x;
    }

    private static void strong() {
        Check.due("n->pb", pair(P, B).holds(0, 0, N, -1), 1);
        Check.due("c->pb, HEAVY 1 more OUT", pair(P, B).holds(0, 0, C, -1), 0);
        Check.due("n->ab, HEAVY 1 more IN", pair(A, B).holds(0, 0, N, -1), 0);
        Check.due("n->pe, LIGHT 1 more OUT", pair(P, E).holds(0, 0, N, -1), 0);
        Check.due("v->ab, LIGHT 1 more IN", pair(A, B).holds(0, 0, V, -1), 0);
        Check.due("v->ae", pair(A, E).holds(0, 0, V, -1), 1);
        Check.due("l->pb, STRANGE 1 more OUT", pair(P, B).holds(0, 0, L, -1), 0);
        Check.due("o->ab, STRANGE 1 more IN", pair(A, B).holds(0, 0, O, -1), 0);
        Check.due("c->km", pair(K, M).holds(0, 0, C, -1), 1);
        Check.due("s->bl", decay(S, B, L).holds(0, 0, 0, -1), 1);
        TrackChamber x = Chambers.eight();
        x.kind(0, P);
        x.kind(1, A);
        x.vertex(0, 0, -1, 1 + 2);
        Check.due("n->pa, CHARGE 2 more OUT", x.holds(0, 0, N, -1), 0);
        x.vertex(0, 0, 0, 2);
        x.kind(0, A);
        Check.due("a->a", x.holds(1, 0, N, -1), 1);
        x.kind(3, B);
        x.vertex(0, 0, 3, 2);
        Check.due("b->a, CHARGE 2 more OUT", x.holds(2, 0, N, -1), 0);
    }

    private static void faint() {
        Check.due("n->pb, STRANGE the same", pair(P, B).holds(0, 1, N, -1), 1);
        Check.due("l->pb, STRANGE 1 more OUT", pair(P, B).holds(0, 1, L, -1), 1);
        Check.due("o->ab, STRANGE 1 more IN", pair(A, B).holds(0, 1, O, -1), 1);
        Check.due("o->am, STRANGE 2 more IN", pair(A, M).holds(0, 1, O, -1), 0);
        Check.due("l->pb and o, STRANGE 2 more OUT", pair(P, B).holds(0, 1, L, O), 0);
        Check.due("s->bn, STRANGE 1 more OUT", decay(S, B, N).holds(0, 1, 0, -1), 1);
        Check.due("b->mc, STRANGE 1 more IN", decay(B, M, C).holds(0, 1, 0, -1), 1);
        Check.due("n->pe, LIGHT 1 more OUT", pair(P, E).holds(0, 1, N, -1), 0);
        Check.due("v->ab, LIGHT 1 more IN", pair(A, B).holds(0, 1, V, -1), 0);
        Check.due("c->pb, HEAVY 1 more OUT", pair(P, B).holds(0, 1, C, -1), 0);
        Check.due("n->ab, HEAVY 1 more IN", pair(A, B).holds(0, 1, N, -1), 0);
        TrackChamber x = Chambers.eight();
        x.kind(0, A);
        x.vertex(0, 0, -1, 1);
        Check.due("c->a, CHARGE 1 more OUT", x.holds(0, 1, C, -1), 0);
    }

    private static void loose() {
        Check.due("n->pe, LIGHT 1 more OUT", pair(P, E).holds(0, 2, N, -1), 1);
        Check.due("v->ab, LIGHT 1 more IN", pair(A, B).holds(0, 2, V, -1), 1);
        Check.due("o->am, STRANGE 2 more IN", pair(A, M).holds(0, 2, O, -1), 1);
        Check.due("l->pb and o, STRANGE 2 more OUT", pair(P, B).holds(0, 2, L, O), 1);
        Check.due("s->ev, LIGHT 2 more OUT, HEAVY 1 more IN", decay(S, E, V).holds(0, 2, 0, -1), 0);
        Check.due("b->ev, LIGHT 2 more OUT", decay(B, E, V).holds(0, 2, 0, -1), 1);
        Check.due("c->pb, HEAVY 1 more OUT", pair(P, B).holds(0, 2, C, -1), 0);
        Check.due("n->ab, HEAVY 1 more IN", pair(A, B).holds(0, 2, N, -1), 0);
        TrackChamber x = Chambers.eight();
        x.kind(0, A);
        x.kind(3, B);
        x.vertex(0, 0, -1, 1);
        x.vertex(0, 0, -1, 8);
        Check.due("c->a, CHARGE 1 more OUT", x.holds(0, 2, C, -1), 0);
        Check.due("c->b, CHARGE 1 more IN", x.holds(1, 2, C, -1), 0);
    }

    private static void holdsWithLost() {
        Check.due("c->am and o", pair(A, M).holds(0, 0, C, O), 1);
        Check.due("c->am, none LOST", pair(A, M).holds(0, 0, C, -1), 0);
        Check.due("o->am and o", pair(A, M).holds(0, 0, O, O), 0);
        Check.due("s->bc and l", decay(S, B, C).holds(0, 0, 0, L), 1);
        Check.due("s->bc and n FAINT", decay(S, B, C).holds(0, 1, 0, N), 1);
        Check.due("s->bc and n STRONG", decay(S, B, C).holds(0, 0, 0, N), 0);
        Check.due("s->bc and o", decay(S, B, C).holds(0, 2, 0, O), 0);
        Check.due("e->bc and v", decay(E, B, C).holds(0, 0, 0, V), 1);
        Check.due("b->ec and v, LIGHT 2 more OUT", decay(B, E, C).holds(0, 1, 0, V), 0);
        Check.due("n->ab and n", pair(A, B).holds(0, 0, N, N), 1);
        Check.due("n->pb and n, HEAVY 1 more OUT", pair(P, B).holds(0, 2, N, N), 0);
    }

    private static void holdsWithoutLost() {
        TrackChamber x = pair(P, B);
        Check.due("n->pb, none LOST", x.holds(0, 0, N, -1), 1);
        Check.due("n->pb and p's number 0", x.holds(0, 0, N, 0), -1);
        Check.due("n->pb and n", x.holds(0, 0, N, N), 0);
        Check.due("n->pb and c, which has no numbers", x.holds(0, 0, N, C), 1);
        Check.due("n->pb and v", x.holds(0, 0, N, V), 0);
    }

    private static void holdsNeutralDoesNotMatter() {
        TrackChamber x = decay(S, B, L);
        for (int neutral = -2; neutral <= 13; neutral++) {
            Check.due("s->bl, neutral " + neutral, x.holds(0, 0, neutral, -1), 1);
        }
        for (int neutral : Chambers.FAR) {
            Check.due("s->bl, neutral " + neutral, x.holds(0, 0, neutral, -1), 1);
        }
        TrackChamber y = decay(S, B, N);
        for (int neutral = -2; neutral <= 13; neutral++) {
            Check.due("s->bn, neutral " + neutral, y.holds(0, 0, neutral, -1), 0);
        }
    }

    private static void holdsBeyond() {
        Check.due("no VERTICES", new TrackChamber().holds(0, 0, N, -1), -1);
        TrackChamber x = pair(P, B);
        for (int vertex : new int[] {-1, 1}) {
            Check.due("vertex " + vertex, x.holds(vertex, 0, N, -1), -1);
        }
        for (int law : new int[] {-1, 3}) {
            Check.due("law " + law, x.holds(0, law, N, -1), -1);
        }
        for (int lost : new int[] {-2, 12}) {
            Check.due("lost " + lost, x.holds(0, 0, N, lost), -1);
        }
        for (int far : Chambers.FAR) {
            Check.due("vertex " + far, x.holds(far, 0, N, -1), -1);
            Check.due("law " + far, x.holds(0, far, N, -1), -1);
            Check.due("lost " + far, x.holds(0, 0, N, far), -1);
        }
    }

    private static void holdsLostOfCharge() {
        TrackChamber x = pair(P, B);
        TrackChamber y = decay(S, B, L);
        boolean[] neutral = {false, true, false, true, false, false, true, false, false, true, true, false};
        // By LOOSE n->pb holds with each LOST one that is not HEAVY, and so does s->bl.
        for (int lost = 0; lost < 12; lost++) {
            int due = !neutral[lost] ? -1 : lost == N || lost == L ? 0 : 1;
            Check.due("n->pb and " + lost, x.holds(0, 2, N, lost), due);
            Check.due("s->bl and " + lost, y.holds(0, 2, 0, lost), due);
        }
    }

    private static void holdsNeutralBeyond() {
        TrackChamber x = pair(P, B);
        int[] due = {-1, 1, -1, 0, -1, -1, 0, -1, -1, 0, 0, -1};
        for (int neutral = 0; neutral < 12; neutral++) {
            Check.due("neutral " + neutral, x.holds(0, 0, neutral, -1), due[neutral]);
        }
        for (int neutral : new int[] {-2, -1, 12}) {
            Check.due("neutral " + neutral, x.holds(0, 0, neutral, -1), -1);
        }
        for (int neutral : Chambers.FAR) {
            Check.due("neutral " + neutral, x.holds(0, 0, neutral, -1), -1);
        }
    }

    private static void holdsNotTold() {
        TrackChamber x = pair(P, B);
        x.kind(0, -1);
        Check.due("the first one OUT", x.holds(0, 0, N, -1), -5);
        x.kind(0, P);
        x.kind(3, -1);
        Check.due("the last one OUT", x.holds(0, 0, N, -1), -5);
        x.kind(3, B);
        Check.due("another TRACK does not matter", x.holds(0, 0, N, -1), 1);
        TrackChamber y = decay(S, B, L);
        y.kind(4, -1);
        Check.due("the one IN", y.holds(0, 0, N, -1), -5);
        y.kind(4, S);
        y.kind(5, -1);
        Check.due("a STRAIGHT one OUT", y.holds(0, 0, N, -1), -5);
    }

    private static void first(TrackChamber x, int law, int lost, int ways, int... kinds) {
        String call = "names(0, " + law + ", " + lost + ", ";
        Check.due(call + "-1)", x.names(0, law, lost, -1), ways);
        for (int k = 0; k < kinds.length; k++) {
            Check.due(call + k + ")", x.names(0, law, lost, k), kinds[k]);
        }
        Check.due(call + kinds.length + ")", x.names(0, law, lost, kinds.length), -2);
    }

    private static void namesNoWay() {
        TrackChamber x = Chambers.eight();
        x.vertex(0, 0, -1, 1 + 2);
        // CHARGE 2 OUT, whatever they are.
        for (int law = 0; law < 3; law++) {
            first(x, law, 0, 0);
            first(x, law, 1, 0);
        }
    }

    private static void namesAllTold() {
        first(decay(S, B, L), 0, 0, 1);
        first(decay(S, B, N), 0, 0, 0);
        first(decay(S, B, N), 1, 0, 1);
        first(decay(S, B, C), 2, 0, 0);
        // With a LOST one it is the only one named.
        first(decay(S, B, L), 0, 1, 1, C);
        first(decay(S, B, C), 0, 1, 1, L);
        // With none IN the NEUTRAL is named: n alone, n or l.
        first(pair(P, B), 0, 0, 1, N);
        first(pair(P, B), 1, 0, 2, N);
    }

    private static void namesLastOfFirst() {
        TrackChamber x = Chambers.eight();
        x.vertex(0, 0, -1, 32 + 64 + 128);
        // Three STRAIGHT ones, NEUTRAL, LOST one: five are named, the most that there can be.
        first(x, 2, 1, 3 * 81 + 4 * 2 * 2 * 27, N, V, V, N, V);
        // None HEAVY by a NEUTRAL that isn't, one HEAVY of three by one that is.
        first(x, 2, 0, 3 * 27 + 3 * 2 * 9 * 2, N, V, V, N);
        TrackChamber y = Chambers.eight();
        y.vertex(0, 0, 5, 64);
        first(y, 0, 0, 5, N, N);
        first(y, 2, 0, 4 + 9, N, N);
    }

    private static void namesInFirst() {
        TrackChamber x = Chambers.eight();
        x.vertex(0, 0, 2, 1 + 32);
        // The one IN has a greater number than the one OUT, and is still named first: k->ao.
        x.kind(5, O);
        first(x, 0, 0, 1, K, A);
        // p->kl, k->kc.
        x.kind(5, -1);
        x.kind(0, K);
        first(x, 0, 0, 2, P, L);
        // k->ao, k->kc.
        x.kind(0, -1);
        x.kind(2, K);
        first(x, 0, 0, 2, A, O);
        x.kind(0, K);
        first(x, 0, 0, 1, C);
        TrackChamber y = Chambers.eight();
        y.vertex(0, 0, 5, 64 + 1 + 8);
        // Of those OUT the lesser number first: l->asn is none, n->pbc is.
        y.kind(5, N);
        first(y, 0, 0, y.names(0, 0, 0, -1), P, B, C);
    }

    private static void namesNeutralThenLost() {
        TrackChamber x = pair(A, B);
        // The NEUTRAL and the LOST one are alike: n, v, c, o, l.
        first(x, 0, 1, 5, N, N);
        x.kind(0, P);
        // n->pb and c.
        first(x, 0, 1, 1, N, C);
        x.kind(3, -1);
        x.kind(0, -1);
        // n->pb, l->pm, v->ae, c->ab, l->as, o->kb, c->km, n->ks.
        first(x, 0, 0, 8, P, B, N);
    }

    private static void namesFitTurn() {
        TrackChamber x = Chambers.eight();
        x.vertex(0, 0, 0, 2);
        x.vertex(0, 0, 3, 16);
        x.vertex(0, 0, 5, 64);
        // p->p, a->a, k->k; e, b, m, s; n, v, c, o, l.
        Check.due("TURN 1", x.names(0, 0, 0, -1), 3);
        Check.due("TURN 1, the least", x.names(0, 0, 0, 0), P);
        Check.due("TURN -1", x.names(1, 0, 0, -1), 4);
        Check.due("TURN -1, the least", x.names(1, 0, 0, 0), E);
        Check.due("TURN 0", x.names(2, 0, 0, -1), 5);
        Check.due("TURN 0, the least", x.names(2, 0, 0, 0), N);
        TrackChamber y = Chambers.eight();
        y.kind(0, P);
        y.kind(1, P);
        y.vertex(0, 0, 0, 2);
        Check.due("a LOST one of CHARGE 0 alone", y.names(0, 0, 1, -1), 1);
        Check.due("it is c, not a lesser KIND", y.names(0, 0, 1, 0), C);
    }

    private static void namesLeastNumbers() {
        TrackChamber x = Chambers.eight();
        // p->pc, p->an, p->kl, a->ac, k->ao, k->kc: the one IN counts most, then OUT 1.
        x.vertex(0, 0, 0, 2 + 32);
        first(x, 0, 0, 6, P, P, C);
        x.kind(5, N);
        first(x, 0, 0, 1, P, A);
        x.kind(5, O);
        first(x, 0, 0, 1, K, A);
        x.kind(5, -1);
        x.kind(0, K);
        first(x, 0, 0, 2, A, O);
        x.kind(0, -1);
        x.kind(1, K);
        first(x, 0, 0, 2, P, L);
    }

    private static void namesWithAndWithoutLost() {
        TrackChamber x = decay(S, B, C);
        Check.due("without", x.names(0, 0, 0, -1), 0);
        Check.due("with", x.names(0, 0, 1, -1), 1);
        Check.due("without, the 0th", x.names(0, 0, 0, 0), -2);
        Check.due("with, the 0th", x.names(0, 0, 1, 0), L);
    }

    private static void namesBeyond() {
        Check.due("no VERTICES", new TrackChamber().names(0, 0, 0, -1), -1);
        TrackChamber x = pair(P, B);
        for (int v : new int[] {-1, 1}) {
            Check.due("vertex " + v, x.names(v, 0, 0, -1), -1);
        }
        for (int v : new int[] {-1, 3}) {
            Check.due("law " + v, x.names(0, v, 0, -1), -1);
        }
        for (int v : new int[] {-1, 2}) {
            Check.due("lost " + v, x.names(0, 0, v, -1), -1);
        }
        for (int far : Chambers.FAR) {
            Check.due("vertex " + far, x.names(far, 0, 0, -1), -1);
            Check.due("law " + far, x.names(0, far, 0, -1), -1);
            Check.due("lost " + far, x.names(0, 0, far, -1), -1);
        }
    }

    private static void namesBelow() {
        TrackChamber x = pair(P, B);
        Check.due("k -1", x.names(0, 0, 0, -1), 1);
        Check.due("k -2", x.names(0, 0, 0, -2), -1);
        Check.due("k least", x.names(0, 0, 0, Integer.MIN_VALUE), -1);
    }

    private static void namesFourNotTold() {
        TrackChamber x = Chambers.eight();
        x.vertex(0, 0, 0, 2 + 4 + 8);
        for (int k : new int[] {-1, 0, 3, 4}) {
            Check.due("four, k " + k, x.names(0, 0, 0, k), -5);
            Check.due("four, with a LOST one, k " + k, x.names(0, 0, 1, k), -5);
        }
        x.kind(3, B);
        Check.due("three", x.names(0, 0, 0, 0), P);
        x.kind(3, -1);
        x.kind(0, P);
        Check.due("three, the one IN told", x.names(0, 0, 0, 0), P);
    }

    private static void namesThreeNotTold() {
        TrackChamber x = Chambers.eight();
        x.vertex(0, 0, -1, 1 + 8 + 32);
        Check.due("three, a NEUTRAL and a LOST one", x.names(0, 0, 1, 0), P);
        Check.due("three and a NEUTRAL", x.names(0, 0, 0, 0), P);
        TrackChamber y = Chambers.eight();
        y.vertex(0, 0, 0, 2 + 32);
        Check.due("three, one of them IN, and a LOST one", y.names(0, 0, 1, 0), P);
        Check.due("of these the LOST one", y.names(0, 0, 1, 3), C);
    }

    private static void namesNoWayNoKth() {
        TrackChamber x = Chambers.eight();
        x.vertex(0, 0, -1, 1 + 2);
        for (int k : new int[] {0, 1, 2, 3, Integer.MAX_VALUE}) {
            Check.due("no way, k " + k, x.names(0, 2, 0, k), -2);
            Check.due("no way, with a LOST one, k " + k, x.names(0, 2, 1, k), -2);
        }
        TrackChamber y = decay(S, B, N);
        Check.due("no way, all told, k 0", y.names(0, 0, 0, 0), -2);
        // A way that there was in an earlier question is not answered now.
        Check.due("a way with a LOST one", pair(P, B).names(0, 0, 1, 1), C);
        y.kind(5, -1);
        Check.due("a way", y.names(0, 0, 0, 0), L);
        y.kind(5, C);
        Check.due("no way again", y.names(0, 0, 0, 0), -2);
    }

    private static void namesNoKth() {
        TrackChamber x = pair(P, B);
        Check.due("the last, with a LOST one", x.names(0, 0, 1, 1), C);
        Check.due("behind it", x.names(0, 0, 1, 2), -2);
        Check.due("the last, without", x.names(0, 0, 0, 0), N);
        Check.due("behind it", x.names(0, 0, 0, 1), -2);
        x.kind(3, -1);
        Check.due("the last, one more not told", x.names(0, 0, 1, 2), C);
        Check.due("behind it", x.names(0, 0, 1, 3), -2);
        Check.due("far behind", x.names(0, 0, 1, Integer.MAX_VALUE), -2);
    }

    private static void callsOneToThree() {
        TrackChamber x = Chambers.eight();
        x.kind(0, P);
        x.vertex(0, 0, -1, 1 + 8);
        Check.due("one", x.calls(0, 0, 0), 1);
        Check.due("it is b", x.trackOf(3, 7), B);
        Check.due("the told one stays", x.trackOf(0, 7), P);
        x.kind(0, -1);
        x.kind(3, -1);
        Check.due("two", x.calls(0, 0, 0), 2);
        Check.due("p", x.trackOf(0, 7), P);
        Check.due("b", x.trackOf(3, 7), B);
        TrackChamber y = Chambers.eight();
        y.vertex(0, 0, 2, 1 + 32);
        Check.due("three", y.calls(0, 0, 0), 3);
        Check.due("the one IN", y.trackOf(2, 7), P);
        Check.due("OUT 0", y.trackOf(0, 7), P);
        Check.due("OUT 5", y.trackOf(5, 7), C);
        Check.due("no others", y.count(3), 3);
        TrackChamber z = Chambers.eight();
        z.kind(2, K);
        z.vertex(0, 0, 2, 1 + 8 + 2);
        Check.due("three OUT", z.calls(0, 0, 0), 3);
        Check.due("OUT 0 of three", z.trackOf(0, 7), A);
        Check.due("OUT 1 of three", z.trackOf(1, 7), K);
        Check.due("OUT 3 of three", z.trackOf(3, 7), B);
    }

    private static void callsNobody() {
        TrackChamber x = pair(P, B);
        x.image();
        x.back();
        Check.due("no CHANGES", x.count(4), 0);
        Check.due("nobody not told", x.calls(0, 0, 0), 0);
        Check.due("a CHANGE", x.count(4), 1);
        Check.due("nobody, with a LOST one", x.calls(0, 0, 1), 0);
        Check.due("a CHANGE more", x.count(4), 2);
        Check.due("undo()", x.undo(), 1);
        Check.due("KINDS stay", x.trackOf(0, 7) * 100 + x.trackOf(3, 7), P * 100 + B);
    }

    private static void callsKeepsTracksAlone() {
        TrackChamber x = Chambers.eight();
        x.vertex(0, 0, -1, 1 + 8);
        x.kind(0, K);
        // n->kb and l, o->kb and c.
        Check.due("b, with a NEUTRAL and a LOST one: one", x.calls(0, 0, 1), 1);
        Check.due("it is b", x.trackOf(3, 7), B);
        Check.due("that one alone is told", x.count(3), 2);
        Check.due("the NEUTRAL is still n or o", x.names(0, 0, 1, -1), 2);
        TrackChamber y = Chambers.eight();
        y.vertex(0, 0, -1, 1 + 8 + 32);
        Check.due("three, a NEUTRAL, a LOST one: three", y.calls(0, 2, 1), 3);
        Check.due("no more are told", y.count(3), 3);
        Check.due("STRAIGHT ones beside it are not", y.trackOf(6, 7), 12);
    }

    private static void callsBeyond() {
        Check.due("no VERTICES", new TrackChamber().calls(0, 0, 0), -1);
        TrackChamber x = pair(P, B);
        for (int v : new int[] {-1, 1}) {
            Check.due("vertex " + v, x.calls(v, 0, 0), -1);
        }
        for (int v : new int[] {-1, 3}) {
            Check.due("law " + v, x.calls(0, v, 0), -1);
        }
        for (int v : new int[] {-1, 2}) {
            Check.due("lost " + v, x.calls(0, 0, v), -1);
        }
        for (int far : Chambers.FAR) {
            Check.due("vertex " + far, x.calls(far, 0, 0), -1);
            Check.due("law " + far, x.calls(0, far, 0), -1);
            Check.due("lost " + far, x.calls(0, 0, far), -1);
        }
    }

    private static void callsFourNotTold() {
        TrackChamber x = Chambers.eight();
        x.vertex(0, 0, 0, 2 + 4 + 8);
        Check.due("four", x.calls(0, 0, 0), -5);
        Check.due("four, with a LOST one", x.calls(0, 2, 1), -5);
        Check.due("none told", x.count(3), 0);
        x.kind(3, B);
        Check.due("three", x.calls(0, 0, 0), 3);
    }

    private static void callsNoWay() {
        TrackChamber x = Chambers.eight();
        x.vertex(0, 0, -1, 1 + 2);
        int changes = x.count(4);
        for (int law = 0; law < 3; law++) {
            Check.due("CHARGE 2 OUT", x.calls(0, law, 0), -2);
            Check.due("CHARGE 2 OUT, with a LOST one", x.calls(0, law, 1), -2);
        }
        Check.due("none told", x.count(3), 0);
        Check.due("no CHANGE", x.count(4), changes);
        TrackChamber y = decay(S, B, N);
        Check.due("nobody not told, no way", y.calls(0, 0, 0), -2);
    }

    private static void restNotTold() {
        TrackChamber x = pair(P, B);
        x.vertex(0, 0, -1, 1 + 8 + 32);
        x.vertex(0, 0, 0, 2);
        x.vertex(0, 0, 1, 1);
        Check.due("only VERTEX 0 is told", x.rest(2), 1);
        x.kind(5, N);
        Check.due("the last one OUT told, but HEAVY 2", x.rest(2), 1);
        x.kind(5, C);
        Check.due("c instead", x.rest(2), 3);
        x.kind(0, -1);
        Check.due("one of two not told", x.rest(2), 0);
        x.kind(0, P);
        x.kind(1, P);
        Check.due("all told", x.rest(0), 15);
    }

    private static void restWithoutLost() {
        TrackChamber x = decay(S, B, C);
        Check.due("s->bc: with l it would hold", x.names(0, 0, 1, -1), 1);
        for (int law = 0; law < 3; law++) {
            Check.due("s->bc, law " + law, x.rest(law), 0);
        }
        x.kind(5, N);
        Check.due("s->bn STRONG", x.rest(0), 0);
        Check.due("s->bn FAINT", x.rest(1), 1);
        x.kind(5, L);
        Check.due("s->bl STRONG", x.rest(0), 1);
    }

    private static void restSomeNeutral() {
        TrackChamber x = pair(P, B);
        // The first NEUTRAL, n; the last, l; none of them.
        Check.due("n->pb", x.rest(0), 1);
        x.kind(3, M);
        Check.due("l->pm", x.rest(0), 1);
        x.kind(3, S);
        Check.due("->ps, HEAVY 2", x.rest(2), 0);
        x.kind(0, K);
        Check.due("n->ks", x.rest(0), 1);
        x.kind(3, E);
        Check.due("->ke, LIGHT 1, STRANGE 1", x.rest(0), 0);
        Check.due("v->ke FAINT", x.rest(1), 1);
        x.kind(0, A);
        x.kind(3, M);
        Check.due("->am STRONG", x.rest(0), 0);
        Check.due("c->am FAINT", x.rest(1), 1);
    }

    private static void restNoneAndAll() {
        Check.due("no VERTICES", new TrackChamber().rest(0), 0);
        TrackChamber x = pair(P, B);
        x.vertex(0, 0, 0, 2);
        x.vertex(0, 0, 3, 16);
        x.vertex(4, 0, 5, 64);
        x.kind(1, P);
        x.kind(4, B);
        x.kind(5, C);
        x.kind(6, C);
        Check.due("all four", x.rest(0), 15);
        x.kind(6, N);
        Check.due("not the last", x.rest(2), 7);
        x.kind(3, E);
        Check.due("neither 0 nor 2", x.rest(0), 2);
    }

    private static void restBeyond() {
        TrackChamber x = pair(P, B);
        Check.due("law -1", x.rest(-1), -1);
        Check.due("law 3", x.rest(3), -1);
        for (int law : Chambers.FAR) {
            Check.due("law " + law, x.rest(law), -1);
        }
        Check.due("no VERTICES, law 3", new TrackChamber().rest(3), -1);
    }
}
