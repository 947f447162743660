/** Promises 23 to 26. */
public final class LawsTest {
    private static final int P = 0, N = 1, E = 2, V = 3, A = 4, B = 5, C = 6, K = 7, M = 8, O = 9, L = 10, S = 11;

    public static void main(String[] args) {
        holds();
        holdsRefused();
        names();
        namesRefused();
        calls();
        rest();
        Check.end();
    }

    /** TRACKS through (0, 0): 0, 1, 2 of TURN 1, 3, 4 of TURN -1, 5, 6, 7 STRAIGHT. */
    private static TrackChamber eight() {
        TrackChamber x = new TrackChamber();
        for (int i = 0; i < 3; i++) {
            x.track(0, 0, 4, 0, 4, 4);
        }
        for (int i = 0; i < 2; i++) {
            x.track(0, 0, 0, 4, 4, 4);
        }
        for (int i = 0; i < 3; i++) {
            x.track(0, 0, 1, 0, 2, 0);
        }
        return x;
    }

    private static void law(TrackChamber x, String decay, int neutral, int lost, int strong, int faint, int loose) {
        Check.due(decay + " STRONG", x.holds(0, 0, neutral, lost), strong);
        Check.due(decay + " FAINT", x.holds(0, 1, neutral, lost), faint);
        Check.due(decay + " LOOSE", x.holds(0, 2, neutral, lost), loose);
    }

    private static void holds() {
        TrackChamber x = eight();
        x.kind(0, P);
        x.kind(3, B);
        x.vertex(0, 0, -1, 1 + 8);
        law(x, "l->pb", L, -1, 0, 1, 1);
        law(x, "n->pb", N, -1, 1, 1, 1);
        law(x, "o->pb", O, -1, 0, 0, 0);
        law(x, "n->pb and c", N, C, 1, 1, 1);
        law(x, "l->pb and o", L, O, 0, 0, 1);
        law(x, "n->pb and v", N, V, 0, 0, 1);
        x.kind(3, E);
        law(x, "n->pe", N, -1, 0, 0, 1);
        law(x, "v->pe and n", V, N, 0, 0, 0);
        x.kind(0, K);
        x.kind(3, M);
        law(x, "c->km", C, -1, 1, 1, 1);
        law(x, "o->km", O, -1, 0, 1, 1);
        law(x, "c->km and o", C, O, 0, 1, 1);
        x.kind(0, A);
        law(x, "o->am", O, -1, 0, 0, 1);
        law(x, "c->am", C, -1, 0, 1, 1);
        law(x, "c->am and o", C, O, 1, 1, 1);
        TrackChamber y = eight();
        y.kind(4, S);
        y.kind(3, B);
        y.kind(5, N);
        y.vertex(0, 0, 4, 8 + 32);
        law(y, "s->bn", -7, -1, 0, 1, 1);
        law(y, "s->bn, neutral of any number", P, -1, 0, 1, 1);
        law(y, "s->bn and o", 100, O, 0, 0, 1);
        law(y, "s->bn and l", 0, L, 0, 0, 0);
        y.kind(5, L);
        law(y, "s->bl", 0, -1, 1, 1, 1);
        y.drop();
        y.kind(0, P);
        y.vertex(0, 0, 4, 1 + 8);
        y.kind(3, E);
        law(y, "s->pe", 0, -1, 0, 0, 0);
    }

    private static void holdsRefused() {
        TrackChamber x = eight();
        Check.due("holds, no VERTEX", x.holds(0, 0, N, -1), -1);
        x.vertex(0, 0, -1, 1 + 8);
        x.vertex(0, 0, 0, 2);
        Check.due("holds, not told", x.holds(0, 0, N, -1), -5);
        x.kind(0, P);
        Check.due("holds, one not told", x.holds(0, 0, N, -1), -5);
        Check.due("holds, OUT not told", x.holds(1, 0, N, -1), -5);
        Check.due("holds, BAD ahead of STATE", x.holds(0, 0, P, -1), -1);
        x.kind(0, -1);
        x.kind(1, P);
        Check.due("holds, IN not told", x.holds(1, 0, N, -1), -5);
        x.kind(0, P);
        x.kind(3, B);
        Check.due("holds", x.holds(0, 0, N, -1), 1);
        Check.due("holds law 3", x.holds(0, 3, N, -1), -1);
        Check.due("holds law -1", x.holds(0, -1, N, -1), -1);
        Check.due("holds lost -2", x.holds(0, 0, N, -2), -1);
        Check.due("holds lost 12", x.holds(0, 0, N, 12), -1);
        Check.due("holds lost has CHARGE", x.holds(0, 0, N, B), -1);
        Check.due("holds lost has CHARGE, one IN", x.holds(1, 0, N, B), -1);
        Check.due("holds neutral -1", x.holds(0, 0, -1, -1), -1);
        Check.due("holds neutral 12", x.holds(0, 0, 12, -1), -1);
        Check.due("holds neutral has CHARGE", x.holds(0, 0, E, -1), -1);
        Check.due("holds vertex 2", x.holds(2, 0, N, -1), -1);
        Check.due("holds vertex -1", x.holds(-1, 0, N, -1), -1);
    }

    private static void first(TrackChamber x, int law, int lost, int ways, int... kinds) {
        String call = "names(0, " + law + ", " + lost + ", ";
        Check.due(call + "-1)", x.names(0, law, lost, -1), ways);
        for (int k = 0; k < kinds.length; k++) {
            Check.due(call + k + ")", x.names(0, law, lost, k), kinds[k]);
        }
        Check.due(call + "behind)", x.names(0, law, lost, kinds.length), -2);
        Check.due(call + "far behind)", x.names(0, law, lost, Integer.MAX_VALUE), -2);
    }

    private static void names() {
        TrackChamber x = eight();
        x.vertex(0, 0, -1, 1 + 8);
        x.kind(0, P);
        // By STRONG p with b is n, p with m is l; with s HEAVY would be 2, with e LIGHT 1 beside HEAVY 1.
        first(x, 0, 0, 2, B, N);
        first(x, 1, 0, 4, B, N);
        first(x, 2, 0, 6, E, N);
        x.kind(3, M);
        first(x, 0, 0, 1, L);
        first(x, 1, 0, 2, N);
        x.kind(3, S);
        first(x, 0, 0, 0);
        Check.due("no way, no 0th", x.names(0, 0, 0, 0), -2);
        x.kind(3, B);
        first(x, 0, 1, 1, N, C);
        x.kind(0, -1);
        x.kind(3, -1);
        // By LOOSE: HEAVY 0 or 1 of each OUT; NEUTRAL n, l (HEAVY 1), v, c, o (0).
        first(x, 2, 0, 2 * 3 * 3 + 1 * 3 * 2 + 2 * 1 * 2, P, E, N);
        x.drop();
        x.kind(3, S);
        x.kind(4, B);
        x.kind(5, N);
        x.vertex(0, 0, 3, 16 + 32);
        first(x, 1, 0, 1);
        first(x, 0, 0, 0);
        first(x, 0, 1, 0);
        first(x, 1, 1, 1, C);
        x.kind(5, -1);
        first(x, 1, 0, 2, N);
        first(x, 0, 0, 1, L);
        // s->b? and a LOST one: c and l, or l and c.
        first(x, 0, 1, 2, C, L);
        x.kind(3, -1);
        // e->bv, b->bc, s->bl.
        first(x, 0, 0, 3, E, V);
        TrackChamber y = eight();
        y.vertex(0, 0, -1, 32 + 64 + 128);
        // Three STRAIGHT ones, NEUTRAL and LOST one by LOOSE: HEAVY alone is kept; 2 KINDS have it, 3 not.
        first(y, 2, 1, 3 * 81 + 4 * 2 * 2 * 27, N, V, V, N, V);
    }

    private static void namesRefused() {
        TrackChamber x = eight();
        Check.due("names, no VERTEX", x.names(0, 0, 0, -1), -1);
        x.vertex(0, 0, 0, 2 + 4 + 8);
        Check.due("names, four not told", x.names(0, 0, 0, -1), -5);
        Check.due("names, four not told, k", x.names(0, 0, 1, 3), -5);
        Check.due("calls, four not told", x.calls(0, 0, 1), -5);
        Check.due("names vertex 1", x.names(1, 0, 0, -1), -1);
        Check.due("names vertex -1", x.names(-1, 0, 0, -1), -1);
        Check.due("names law 3", x.names(0, 3, 0, -1), -1);
        Check.due("names law -1", x.names(0, -1, 0, -1), -1);
        Check.due("names lost 2", x.names(0, 0, 2, -1), -1);
        Check.due("names lost -1", x.names(0, 0, -1, -1), -1);
        Check.due("names k -2", x.names(0, 0, 0, -2), -1);
        x.kind(0, P);
        // p->????: + + - from +: p a b, and so on.
        Check.due("names, three not told", x.names(0, 0, 0, 0), P);
        Check.due("names, three not told, 1", x.names(0, 0, 0, 1), A);
        Check.due("names, three not told, 2", x.names(0, 0, 0, 2), B);
        Check.due("names, three not told, 3", x.names(0, 0, 0, 3), -2);
        // p a b, p k m, a p b, a k s, k a s, k p m.
        Check.due("names, how many", x.names(0, 0, 0, -1), 6);
    }

    private static void calls() {
        TrackChamber x = eight();
        Check.due("calls, no VERTEX", x.calls(0, 0, 0), -1);
        x.vertex(0, 0, -1, 1 + 8);
        x.kind(0, P);
        int changes = x.count(4);
        Check.due("calls law 3", x.calls(0, 3, 0), -1);
        Check.due("calls law -1", x.calls(0, -1, 0), -1);
        Check.due("calls lost 2", x.calls(0, 0, 2), -1);
        Check.due("calls lost -1", x.calls(0, 0, -1), -1);
        Check.due("calls vertex 1", x.calls(1, 0, 0), -1);
        Check.due("calls vertex -1", x.calls(-1, 0, 0), -1);
        Check.due("calls one", x.calls(0, 0, 1), 1);
        Check.due("calls, came", x.trackOf(3, 7), B);
        Check.due("calls, told stays", x.trackOf(0, 7), P);
        Check.due("calls is a CHANGE", x.undo(), Math.min(8, changes + 1) - 1);
        Check.due("calls undone", x.trackOf(3, 7), 12);
        x.kind(0, -1);
        Check.due("calls two", x.calls(0, 2, 0), 2);
        Check.due("calls two, 0", x.trackOf(0, 7), P);
        Check.due("calls two, 3", x.trackOf(3, 7), E);
        Check.due("calls nobody, no way", x.calls(0, 0, 0), -2);
        TrackChamber y = eight();
        y.back();
        Check.read(y, "v0,0>0>3;k0p;k3b");
        Check.due("calls, no CHANGES", y.count(4), 0);
        Check.due("calls nobody", y.calls(0, 0, 0), 0);
        Check.due("calls nobody is a CHANGE", y.count(4), 1);
        y.kind(3, S);
        Check.due("calls nobody, no way at all", y.calls(0, 2, 0), -2);
        Check.due("calls refused is no CHANGE", y.count(4), 2);
        y.drop();
        y.kind(0, -1);
        y.vertex(0, 0, 0, 2 + 4 + 8);
        y.kind(3, -1);
        y.kind(0, K);
        Check.due("calls three", y.calls(0, 0, 0), 3);
        Check.due("calls three, 1", y.trackOf(1, 7), A);
        Check.due("calls three, 2", y.trackOf(2, 7), K);
        Check.due("calls three, 3", y.trackOf(3, 7), B);
    }

    private static void rest() {
        TrackChamber x = eight();
        Check.due("rest, none", x.rest(0), 0);
        x.vertex(0, 0, -1, 1 + 8);
        x.vertex(0, 0, 4, 8 + 32);
        x.vertex(0, 0, -1, 2);
        x.vertex(0, 0, -1, 32 + 64);
        Check.due("rest, not told", x.rest(2), 0);
        x.kind(0, P);
        x.kind(3, B);
        Check.due("rest l->pb", x.rest(0), 1);
        x.kind(4, S);
        x.kind(5, N);
        Check.due("rest s->bn STRONG", x.rest(0), 1);
        Check.due("rest s->bn FAINT", x.rest(1), 3);
        x.kind(1, A);
        Check.due("rest, CHARGE", x.rest(2), 3);
        x.kind(6, N);
        Check.due("rest, HEAVY 2", x.rest(2), 3);
        x.kind(6, O);
        Check.due("rest, l of n, o by FAINT: n", x.rest(1), 11);
        Check.due("rest, n, o STRONG", x.rest(0), 1);
        x.kind(3, E);
        Check.due("rest, LIGHT", x.rest(1), 8);
        Check.due("rest, LOOSE", x.rest(2), 11);
        TrackChamber y = eight();
        y.kind(4, S);
        y.kind(3, B);
        y.vertex(0, 0, 4, 8);
        Check.due("rest, without a LOST one", y.rest(0), 0);
        Check.due("names, with a LOST one", y.names(0, 0, 1, -1), 1);
        Check.due("rest(3)", x.rest(3), -1);
        Check.due("rest(-1)", x.rest(-1), -1);
    }
}
