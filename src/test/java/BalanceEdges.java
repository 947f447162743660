/** Boundary cases of promises 19 to 22. */
final class BalanceEdges {
    private static final long NO = TrackChamber.NO;

    private BalanceEdges() {
    }

    static void run() {
        Edge.of(19, "LOST at a VERTEX along an axis (what 0, 1), STRENGTH of it (2; by 1). NO:",
            BalanceEdges::lostBeyond);
        Edge.of(19, "also there is none.", BalanceEdges::lostNone);
        Edge.of(19, "there is none, if one of them is STRAIGHT.", BalanceEdges::lostOneStraight);
        Edge.of(19, "STRENGTH of it (2; by 1).", BalanceEdges::strengthByOne);
        Edge.of(19, "PUSH of the one IN (0, 0: none) less all PUSHES of those OUT, there;", BalanceEdges::lostNoneIn);
        Edge.of(19, "1 below the line (above 0; 0 is 0 by 1)", BalanceEdges::lostInLowestTerms);
        Edge.of(19, "each of its two parts is cut toward 0, then squared,", BalanceEdges::strengthCut);
        Edge.of(19, "STRENGTH of LOST is that of the whole LOST.", BalanceEdges::strengthOfWhole);
        Edge.of(20, "Whether a VERTEX is EVEN (1, 0).", BalanceEdges::evenOrNot);
        Edge.of(20, "EVEN: LOST is 0, 0.", BalanceEdges::evenHalfway);
        Edge.of(20, "BAD;", BalanceEdges::evenBeyond);
        Edge.of(20, "NOT: there is no BALANCE.", BalanceEdges::evenNoBalance);
        ofCame();
        ofSpoils();
    }

    private static void ofCame() {
        Edge.of(21, "CAME (bits).", BalanceEdges::cameNoneAndAll);
        Edge.of(21, "BAD;", BalanceEdges::cameBeyond);
        Edge.of(21, "STATE: one is IN;", BalanceEdges::cameOneIn);
        Edge.of(21, "NOT: there is no BALANCE.", BalanceEdges::cameNoBalance);
        Edge.of(21, "With none IN its NEUTRAL's PUSH is all PUSHES of those OUT together.", BalanceEdges::cameOfThree);
        Edge.of(21, "from whose POINT, another than its own,", BalanceEdges::cameOwnPoint);
        Edge.of(21, "CAME: no VERTEX at the same POINT.", BalanceEdges::cameSamePoint);
        Edge.of(21, "the way from there to it is along that PUSH, in its sense", BalanceEdges::cameAlong);
        Edge.of(21, "(not, if that is 0, 0)", BalanceEdges::cameNoPush);
        Edge.of(21, "CAME asks for where VERTICES are alone.", BalanceEdges::cameWhereAlone);
    }

    private static void ofSpoils() {
        Edge.of(22, "SPOILS: the TRACK.", BalanceEdges::spoilsFirstAndLast);
        Edge.of(22, "BAD;", BalanceEdges::spoilsBeyond);
        Edge.of(22, "NOT: there is no BALANCE,", BalanceEdges::spoilsNoBalance);
        Edge.of(22, "no such TRACK.", BalanceEdges::spoilsNoSuch);
        Edge.of(22, "without which LOST is 0, 0 (of several the least)", BalanceEdges::spoilsOfSeveral);
        Edge.of(22, "SPOILS also with none IN.", BalanceEdges::spoilsNoneIn);
        Edge.of(22, "SPOILS: also the only one OUT.", BalanceEdges::spoilsOnlyOne);
    }

    private static void lostIs(TrackChamber x, int vertex, long... due) {
        for (int way = 0; way < due.length; way++) {
            Check.due("lost(" + vertex + ", " + way / 2 + ", " + way % 2 + ")", x.lost(vertex, way / 2, way % 2),
                due[way]);
        }
    }

    private static void lostBeyond() {
        Check.due("lost(0, 0, 0), no VERTICES", new TrackChamber().lost(0, 0, 0), NO);
        TrackChamber x = Chambers.eight();
        Check.due("lost(0, 0, 0), TRACKS alone", x.lost(0, 0, 0), NO);
        x.vertex(0, 0, -1, 1);
        for (int v : new int[] {-1, 1}) {
            Check.due("vertex " + v, x.lost(v, 0, 0), NO);
        }
        for (int v : new int[] {-1, 3}) {
            Check.due("what " + v, x.lost(0, v, 0), NO);
        }
        for (int v : new int[] {-1, 2}) {
            for (int what = 0; what < 3; what++) {
                Check.due("what " + what + ", part " + v, x.lost(0, what, v), NO);
            }
        }
        for (int far : Chambers.FAR) {
            Check.due("vertex " + far, x.lost(far, 0, 0), NO);
            Check.due("what " + far, x.lost(0, far, 0), NO);
            Check.due("part " + far, x.lost(0, 0, far), NO);
            Check.due("STRENGTH, part " + far, x.lost(0, 2, far), NO);
        }
    }

    private static void lostNone() {
        TrackChamber x = Chambers.eight();
        x.vertex(0, 0, 5, 1);
        x.vertex(0, 0, 0, 2 + 4 + 128);
        x.vertex(0, 0, -1, 32);
        x.vertex(0, 0, -1, 1 + 32);
        for (int vertex = 0; vertex < 4; vertex++) {
            lostIs(x, vertex, NO, NO, NO, NO, NO, NO);
        }
    }

    private static void lostOneStraight() {
        // Each of four places in turn is the STRAIGHT one's: IN, and the three OUT.
        for (int place = 0; place < 4; place++) {
            TrackChamber x = new TrackChamber();
            for (int i = 0; i < 4; i++) {
                int made = i == place ? Chambers.line(x) : Chambers.under(x, i + 1);
                Check.due("TRACK", made, i);
            }
            x.vertex(0, 0, 0, 2 + 4 + 8);
            lostIs(x, 0, NO, NO, NO, NO, NO, NO);
            x.vertex(0, 0, place, 1 << (place + 1) % 4);
            Check.due("even()", x.even(1), -2);
        }
        // The flattest circle, its CENTRE far off: BEND is 1, so it is not STRAIGHT.
        TrackChamber y = new TrackChamber();
        y.track(-20, -20, -1, -2, 19, 17);
        y.vertex(-20, -20, -1, 1);
        lostIs(y, 0, -28195 * 3, 2, -26675 * 3, 2);
    }

    private static void strengthByOne() {
        TrackChamber x = new TrackChamber();
        Chambers.under(x, 2);
        Chambers.under(x, 2);
        x.track(0, 0, 1, 0, 0, 1);
        x.vertex(0, 0, -1, 1);
        x.vertex(0, 0, 0, 2);
        x.vertex(0, 0, -1, 4);
        // (0, 6); (0, 0); (-3/2, 3/2) is cut to (-1, 1).
        lostIs(x, 0, 0, 1, 6, 1, 36, 1);
        lostIs(x, 1, 0, 1, 0, 1, 0, 1);
        lostIs(x, 2, -3, 2, 3, 2, 2, 1);
    }

    private static void lostNoneIn() {
        TrackChamber x = new TrackChamber();
        Chambers.under(x, 2);
        Chambers.square(x, 1);
        Chambers.over(x, 4);
        x.vertex(0, 0, -1, 1);
        x.vertex(0, 0, -1, 1 + 2 + 4);
        x.vertex(0, 0, 1, 1);
        // (0, -6), (3, -3), (0, 12).
        lostIs(x, 0, 0, 1, 6, 1);
        lostIs(x, 1, -3, 1, -3, 1);
        lostIs(x, 2, 3, 1, 3, 1);
    }

    private static void lostInLowestTerms() {
        TrackChamber x = new TrackChamber();
        x.field(1);
        x.track(0, 0, 1, 0, 0, 1);
        x.track(0, 0, 1, 0, 0, 1);
        x.track(0, 0, 1, 1, -1, 2);
        x.track(0, 0, 0, 1, 1, 0);
        // (1/2, -1/2) twice, (7/6, 1/6), (-1/2, 1/2).
        x.vertex(0, 0, -1, 1 + 2);
        lostIs(x, 0, -1, 1, 1, 1);
        x.vertex(0, 0, 2, 1);
        lostIs(x, 1, 2, 3, 2, 3);
        x.vertex(0, 0, 0, 4);
        lostIs(x, 2, -2, 3, -2, 3);
        x.vertex(0, 0, -1, 1 + 8);
        lostIs(x, 3, 0, 1, 0, 1);
    }

    private static void strengthCut() {
        TrackChamber x = new TrackChamber();
        x.field(1);
        x.track(0, 0, 1, 0, 0, 1);
        x.track(0, 0, 0, 1, 1, 0);
        x.track(0, 0, 1, 2, 3, 1);
        // LOST (-1/2, 1/2), (1/2, -1/2): both cut to 0, 0; (1/2, -3/2): to 0, -1; by FIELD 5 (5/2, -15/2): to 2, -7.
        x.vertex(0, 0, -1, 1);
        x.vertex(0, 0, -1, 2);
        x.vertex(0, 0, -1, 4);
        Check.due("halves", x.lost(0, 2, 0), 0);
        Check.due("halves of other signs", x.lost(1, 2, 0), 0);
        Check.due("but not EVEN", x.even(0), 0);
        Check.due("one and a half below 0", x.lost(2, 2, 0), 1);
        x.field(5);
        Check.due("seven and a half below 0", x.lost(2, 2, 0), 4 + 49);
    }

    private static void strengthOfWhole() {
        TrackChamber x = new TrackChamber();
        x.field(1);
        x.track(0, 0, 1, 0, 0, 1);
        x.track(0, 0, 1, 0, 0, 1);
        x.track(0, 0, 0, 1, 1, 0);
        // Each PUSH is of halves, and its STRENGTH 0; LOST is -1, 1; with the third one IN -3/2, 3/2.
        x.vertex(0, 0, -1, 1 + 2);
        x.vertex(0, 0, 2, 1 + 2);
        x.vertex(0, 0, 2, 1);
        Check.due("two halves", x.lost(0, 2, 0), 2);
        Check.due("three halves", x.lost(1, 2, 0), 2);
        x.field(9);
        // 9/2 and 9/2 are 9, not 4 and 4.
        Check.due("two of four and a half", x.lost(2, 2, 0), 81 + 81);
        // The greatest there is: one IN, three OUT the other way, all of them the flattest, all far over one below.
        TrackChamber y = new TrackChamber();
        y.field(9);
        y.track(-20, -20, -1, -2, 19, 17);
        for (int i = 0; i < 3; i++) {
            y.track(19, 17, -1, -2, -20, -20);
        }
        y.vertex(-20, -20, 0, 2 + 4 + 8);
        lostIs(y, 0, 2 * 253755, 1, 2 * 240075, 1, 4L * 253755 * 253755 + 4L * 240075 * 240075, 1);
    }

    private static void evenOrNot() {
        TrackChamber x = new TrackChamber();
        Chambers.under(x, 4);
        Chambers.under(x, 2);
        Chambers.under(x, 2);
        Chambers.over(x, 4);
        x.vertex(0, 0, 0, 2 + 4);
        x.vertex(0, 0, -1, 1 + 8);
        x.vertex(0, 0, 0, 2);
        x.vertex(0, 0, -1, 1);
        Check.due("IN as both OUT", x.even(0), 1);
        Check.due("none IN, OUT against one another", x.even(1), 1);
        Check.due("IN is more", x.even(2), 0);
        Check.due("none IN, one OUT", x.even(3), 0);
    }

    private static void evenHalfway() {
        TrackChamber x = new TrackChamber();
        x.field(1);
        Chambers.square(x, 2);
        Chambers.under(x, 2);
        x.track(0, 0, 1, 0, 0, 1);
        x.vertex(0, 0, 0, 2);
        Check.due("LOST 2, 0: x", x.lost(0, 0, 0), 2);
        Check.due("LOST 2, 0: y", x.lost(0, 1, 0), 0);
        Check.due("LOST 2, 0", x.even(0), 0);
        x.vertex(0, 0, -1, 2);
        Check.due("LOST 0, 2: x", x.lost(1, 0, 0), 0);
        Check.due("LOST 0, 2", x.even(1), 0);
        x.vertex(0, 0, -1, 4);
        Check.due("LOST -1/2, 1/2: STRENGTH", x.lost(2, 2, 0), 0);
        Check.due("LOST -1/2, 1/2", x.even(2), 0);
    }

    private static void evenBeyond() {
        Check.due("even(0), no VERTICES", new TrackChamber().even(0), -1);
        TrackChamber x = Chambers.eight();
        x.vertex(0, 0, -1, 1);
        for (int vertex : new int[] {-1, 1}) {
            Check.due("even(" + vertex + ")", x.even(vertex), -1);
        }
        for (int vertex : Chambers.FAR) {
            Check.due("even(" + vertex + ")", x.even(vertex), -1);
        }
    }

    private static void evenNoBalance() {
        TrackChamber x = Chambers.eight();
        x.vertex(0, 0, 5, 1);
        x.vertex(0, 0, 0, 2 + 4 + 128);
        x.vertex(0, 0, -1, 32);
        x.vertex(0, 0, 5, 64);
        for (int vertex = 0; vertex < 4; vertex++) {
            Check.due("even(" + vertex + ")", x.even(vertex), -2);
        }
    }

    private static void cameNoneAndAll() {
        TrackChamber x = new TrackChamber();
        Chambers.under(x, 2);
        x.track(0, 1, 0, 2, 0, 3);
        x.vertex(0, 0, -1, 1);
        Check.due("it alone", x.came(0), 0);
        // PUSH (0, -6): from above.
        x.vertex(0, 1, -1, 2);
        x.vertex(0, 20, -1, 2);
        x.vertex(0, 7, -1, 2);
        Check.due("all the others", x.came(0), 2 + 4 + 8);
        TrackChamber y = new TrackChamber();
        Chambers.over(y, 2);
        y.track(0, 1, 0, 2, 0, 3);
        y.vertex(0, -1, -1, 2);
        y.vertex(0, -20, -1, 2);
        y.vertex(0, -7, -1, 2);
        y.vertex(0, 0, -1, 1);
        Check.due("all ahead of it", y.came(3), 1 + 2 + 4);
    }

    private static void cameBeyond() {
        Check.due("came(0), no VERTICES", new TrackChamber().came(0), -1);
        TrackChamber x = Chambers.eight();
        x.vertex(0, 0, -1, 1);
        for (int vertex : new int[] {-1, 1}) {
            Check.due("came(" + vertex + ")", x.came(vertex), -1);
        }
        for (int vertex : Chambers.FAR) {
            Check.due("came(" + vertex + ")", x.came(vertex), -1);
        }
    }

    private static void cameOneIn() {
        TrackChamber x = Chambers.eight();
        x.vertex(0, 0, 0, 2);
        x.vertex(0, 0, 7, 1);
        Check.due("TRACK 0 IN", x.came(0), -5);
        Check.due("a STRAIGHT one IN", x.came(1), -5);
    }

    private static void cameNoBalance() {
        TrackChamber x = Chambers.eight();
        x.vertex(0, 0, -1, 32);
        x.vertex(0, 0, -1, 1 + 2 + 128);
        x.vertex(4, 0, -1, 32);
        Check.due("the only one OUT is STRAIGHT", x.came(0), -2);
        Check.due("the last one OUT is STRAIGHT", x.came(1), -2);
    }

    private static void cameOfThree() {
        TrackChamber x = new TrackChamber();
        // (0, -6), (3, -3), (3, 0) by 3 around (0, 1): together (6, -9), from (-2, 3).
        Chambers.under(x, 2);
        Chambers.square(x, 1);
        x.track(0, 0, 1, 1, 0, 2);
        x.track(-2, 3, 0, 3, 2, 3);
        x.track(-6, 9, 0, 0, 6, -9);
        x.vertex(0, 0, -1, 1 + 2 + 4);
        x.vertex(-2, 3, -1, 8);
        x.vertex(2, 3, -1, 8);
        x.vertex(-6, 9, -1, 16);
        Check.due("came(0)", x.came(0), 2 + 8);
        // LOST is that PUSH turned round.
        lostIs(x, 0, -6, 1, 9, 1);
    }

    private static void cameOwnPoint() {
        TrackChamber x = Chambers.eight();
        x.vertex(0, 0, -1, 1);
        x.vertex(4, 4, -1, 1);
        x.vertex(0, 4, -1, 1);
        // PUSHES (6, -6), (-6, 6), (-6, -6): none leads from one of the others, nor from its own POINT.
        Check.due("came(0)", x.came(0), 0);
        Check.due("came(1)", x.came(1), 0);
        Check.due("came(2)", x.came(2), 0);
    }

    private static void cameSamePoint() {
        TrackChamber x = new TrackChamber();
        Chambers.under(x, 2);
        x.track(0, 1, 0, 2, 0, 3);
        x.vertex(0, 0, -1, 2);
        x.vertex(0, 0, -1, 1);
        x.vertex(0, 0, 0, 2);
        x.vertex(0, 5, -1, 2);
        Check.due("three at one POINT", x.came(1), 8);
    }

    private static void cameAlong() {
        TrackChamber x = new TrackChamber();
        // (3, -3) and (0, -3): PUSH (3, -6), from (-1, 2), (-2, 4), .. .
        Chambers.square(x, 1);
        Chambers.under(x, 1);
        x.track(-2, 4, 2, -4, 0, 0);
        x.track(-20, 4, 0, 4, 20, 4);
        x.track(-20, 3, 0, 3, 20, 3);
        x.vertex(0, 0, -1, 3);
        int[][] from = {{-2, 4, 4}, {2, -4, 4}, {-10, 20, 4}, {10, -20, 4}, {-1, 2, 4}, {-2, 3, 16}, {-3, 4, 8},
            {-1, 4, 8}, {2, 4, 8}, {-4, 4, 8}, {0, 4, 8}, {0, 3, 16}};
        int[] due = {2, 0, 2, 0, 2, 0, 0, 0, 0, 0, 0, 0};
        for (int i = 0; i < from.length; i++) {
            Check.due("vertex", x.vertex(from[i][0], from[i][1], -1, from[i][2]), 1);
            Check.due("from " + from[i][0] + ", " + from[i][1], x.came(0), due[i]);
            x.drop();
        }
        // (3/2, -3/2) by the smallest circle: from (-1, 1), not from (1, -1).
        TrackChamber y = new TrackChamber();
        y.track(0, 0, 1, 0, 0, 1);
        y.track(-1, 1, 0, 0, 1, -1);
        y.vertex(0, 0, -1, 1);
        y.vertex(1, -1, -1, 2);
        y.vertex(-1, 1, -1, 2);
        y.vertex(-20, 20, -1, 2);
        Check.due("halves", y.came(0), 4 + 8);
        // Level: (-6, 0) at (2, 2) of the circle around (2, 0) by 2: from x above 2.
        TrackChamber z = new TrackChamber();
        Chambers.under(z, 2);
        z.track(-20, 2, 0, 2, 20, 2);
        z.vertex(1, 2, -1, 2);
        z.vertex(3, 2, -1, 2);
        z.vertex(2, 2, -1, 1);
        z.vertex(20, 2, -1, 2);
        Check.due("level", z.came(2), 2 + 8);
    }

    private static void cameNoPush() {
        TrackChamber x = new TrackChamber();
        Chambers.under(x, 2);
        Chambers.over(x, 2);
        x.track(0, 1, 0, 2, 0, 3);
        x.track(1, 0, 2, 0, 3, 0);
        x.vertex(0, 0, -1, 3);
        x.vertex(0, 4, -1, 4);
        x.vertex(0, -4, -1, 4);
        x.vertex(7, 0, -1, 8);
        Check.due("EVEN", x.even(0), 1);
        Check.due("came(0)", x.came(0), 0);
    }

    private static void cameWhereAlone() {
        TrackChamber x = new TrackChamber();
        Chambers.under(x, 2);
        x.track(0, 1, 0, 2, 0, 3);
        x.track(-5, 5, 0, 5, 5, 5);
        x.track(0, 6, 3, 3, 6, 6);
        x.vertex(0, 0, -1, 1);
        x.vertex(0, 5, 1, 4);
        x.vertex(0, 5, -1, 4);
        x.vertex(0, 6, 1, 8);
        // One has a STRAIGHT one IN, one none, one a circle OUT: all that counts is that they are above.
        Check.due("came(0)", x.came(0), 2 + 4 + 8);
        x.kind(0, Chambers.P);
        x.kind(2, Chambers.N);
        Check.due("came(0), KINDS told", x.came(0), 2 + 4 + 8);
    }

    private static void spoilsFirstAndLast() {
        TrackChamber x = new TrackChamber();
        Chambers.square(x, 1);
        for (int i = 0; i < 5; i++) {
            Chambers.under(x, 1);
        }
        Chambers.under(x, 2);
        Chambers.square(x, 1);
        x.vertex(0, 0, 6, 1 + 2 + 4);
        x.vertex(0, 0, 6, 2 + 4 + 128);
        x.vertex(0, 0, 1, 1 + 4);
        Check.due("TRACK 0", x.spoils(0), 0);
        Check.due("TRACK 7", x.spoils(1), 7);
        Check.due("TRACK 0 of two", x.spoils(2), 0);
    }

    private static void spoilsBeyond() {
        Check.due("spoils(0), no VERTICES", new TrackChamber().spoils(0), -1);
        TrackChamber x = Chambers.eight();
        x.vertex(0, 0, -1, 1);
        for (int vertex : new int[] {-1, 1}) {
            Check.due("spoils(" + vertex + ")", x.spoils(vertex), -1);
        }
        for (int vertex : Chambers.FAR) {
            Check.due("spoils(" + vertex + ")", x.spoils(vertex), -1);
        }
    }

    private static void spoilsNoBalance() {
        TrackChamber x = Chambers.eight();
        x.vertex(0, 0, 0, 2 + 128);
        x.vertex(0, 0, 7, 1);
        x.vertex(0, 0, -1, 128);
        // Without the STRAIGHT one OUT the rest of VERTEX 0 would be EVEN, and of VERTEX 2 nothing is left.
        Check.due("a STRAIGHT one OUT", x.spoils(0), -2);
        Check.due("a STRAIGHT one IN", x.spoils(1), -2);
        Check.due("the only one OUT is STRAIGHT", x.spoils(2), -2);
    }

    private static void spoilsNoSuch() {
        TrackChamber x = new TrackChamber();
        Chambers.under(x, 4);
        Chambers.under(x, 2);
        Chambers.under(x, 2);
        Chambers.square(x, 2);
        Chambers.over(x, 4);
        x.vertex(0, 0, 0, 2 + 4);
        x.vertex(0, 0, 0, 2 + 4 + 16);
        x.vertex(0, 0, 3, 1);
        x.vertex(0, 0, -1, 2 + 8);
        Check.due("EVEN with all of them", x.spoils(0), -2);
        Check.due("one too many", x.spoils(1), 4);
        Check.due("only the one IN is left without it", x.spoils(2), -2);
        Check.due("none IN, either one is left", x.spoils(3), -2);
        x.drop();
        x.vertex(0, 0, 4, 1);
        // IN (0, 12): without the one OUT the one IN is lost; the one IN itself is never left out.
        Check.due("never the one IN", x.spoils(3), -2);
        x.drop();
        // IN (0, -12), OUT (0, -6), (0, 12): 18 too many; without the one IN it would not be EVEN, without 4 neither.
        x.vertex(0, 0, 0, 2 + 16);
        Check.due("neither of two", x.spoils(3), -2);
    }

    private static void spoilsOfSeveral() {
        TrackChamber x = new TrackChamber();
        for (int i = 0; i < 4; i++) {
            Chambers.under(x, 1);
        }
        Chambers.under(x, 2);
        x.vertex(0, 0, 4, 1 + 2 + 4);
        x.vertex(0, 0, 4, 2 + 4 + 8);
        x.vertex(0, 0, 2, 2 + 8);
        Check.due("each of 0, 1, 2", x.spoils(0), 0);
        Check.due("each of 1, 2, 3", x.spoils(1), 1);
        Check.due("each of 1, 3", x.spoils(2), 1);
    }

    private static void spoilsNoneIn() {
        TrackChamber x = new TrackChamber();
        Chambers.under(x, 2);
        Chambers.over(x, 2);
        Chambers.square(x, 2);
        x.vertex(0, 0, -1, 1 + 2 + 4);
        x.vertex(0, 0, -1, 1 + 2);
        Check.due("the third of three", x.spoils(0), 2);
        Check.due("EVEN with both", x.spoils(1), -2);
    }

    private static void spoilsOnlyOne() {
        TrackChamber x = new TrackChamber();
        Chambers.under(x, 2);
        Chambers.under(x, 2);
        Chambers.over(x, 2);
        x.vertex(0, 0, -1, 1);
        x.vertex(0, 0, -1, 4);
        x.vertex(0, 0, 0, 2);
        x.vertex(0, 0, 0, 4);
        Check.due("none IN, TRACK 0", x.spoils(0), 0);
        Check.due("none IN, TRACK 2", x.spoils(1), 2);
        Check.due("one IN, EVEN", x.spoils(2), -2);
        Check.due("one IN, not EVEN", x.spoils(3), -2);
    }
}
