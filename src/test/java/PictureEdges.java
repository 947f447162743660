/** Boundary cases of promises 1 to 12. */
final class PictureEdges {
    private static final long NO = TrackChamber.NO;

    private PictureEdges() {
    }

    static void run() {
        Edge.of(1, "FIELD 3, no TRACKS.", PictureEdges::newObject);
        Edge.of(1, "All memory is the class's own.", PictureEdges::twoObjects);
        Edge.of(2, "FIELD becomes this: what it was.", PictureEdges::fieldWas);
        Edge.of(2, "FIELD 1 .. 9 (3 at first)", PictureEdges::fieldLeastAndGreatest);
        Edge.of(2, "BAD.", PictureEdges::fieldBeyond);
        ofTracks();
        ofKinds();
        ofVertices();
        ofWhatIsThere();
    }

    private static void ofTracks() {
        Edge.of(3, "A TRACK through three POINTS: its number.", PictureEdges::trackNumbers);
        Edge.of(3, "TRACKS 0, 1, .. as they come (8 at most)", PictureEdges::eightTracks);
        Edge.of(3, "POINTS: x, y, each -20 .. 20.", PictureEdges::gridCorners);
        Edge.of(3, "BAD: a number;", PictureEdges::trackBeyondGrid);
        Edge.of(3, "STATE: two are alike;", PictureEdges::trackAlike);
        Edge.of(3, "Three POINTS are unlike, if no two are the same", PictureEdges::trackHalfAlike);
        Edge.of(3, "b of a STRAIGHT may be anywhere", PictureEdges::straightAnywhere);
        Edge.of(3, "FULL: 8.", PictureEdges::ninthTrack);
        Edge.of(3, "and a KIND, or none told (at first).", PictureEdges::noKindAtFirst);
    }

    private static void ofKinds() {
        Edge.of(4, "KIND of a TRACK becomes this (-1: none told): what it was (12: none).", PictureEdges::kindWas);
        Edge.of(4, "BAD;", PictureEdges::kindBeyond);
        Edge.of(4, "STATE: its CHARGE is not the TURN.", PictureEdges::kindAgainstTurn);
        Edge.of(4, "A TRACK's KIND has its TURN as CHARGE (so a STRAIGHT one's has CHARGE 0).",
            PictureEdges::kindOfStraight);
    }

    private static void ofVertices() {
        Edge.of(5, "VERTICES 0, 1, .. as they come (4 at most)", PictureEdges::fourVertices);
        Edge.of(5, "A VERTEX (in -1: none): its number.", PictureEdges::vertexNoneIn);
        Edge.of(5, "BAD: a number,", PictureEdges::vertexBeyondGrid);
        Edge.of(5, "in,", PictureEdges::vertexInBeyond);
        Edge.of(5, "bits of no TRACK,", PictureEdges::vertexOutOfNoTrack);
        Edge.of(5, "of none,", PictureEdges::vertexNoneOut);
        Edge.of(5, "of more than three,", PictureEdges::vertexFourOut);
        Edge.of(5, "TRACKS that go OUT (one to three; the one IN not of them)", PictureEdges::vertexOneToThree);
        Edge.of(5, "the one IN, too", PictureEdges::vertexInIsOut);
        Edge.of(5, "STATE: one of them is not ON it;", PictureEdges::vertexNotOn);
        Edge.of(5, "FULL: 4.", PictureEdges::fifthVertex);
        Edge.of(6, "The latest VERTEX is gone: how many are left.", PictureEdges::dropLatest);
        Edge.of(6, "STATE: there is none.", PictureEdges::dropNone);
        Edge.of(7, "The latest TRACK is gone: how many are left.", PictureEdges::wipeLatest);
        Edge.of(7, "STATE: there is none,", PictureEdges::wipeNone);
        Edge.of(7, "or a VERTEX has it.", PictureEdges::wipeOfVertex);
    }

    private static void ofWhatIsThere() {
        Edge.of(8, "0 .. 5 x, y of a, b, c;", PictureEdges::trackOfPoints);
        Edge.of(8, "6 TURN (1 more: 0 .. 2),", PictureEdges::trackOfTurn);
        Edge.of(8, "7 KIND (12: none told).", PictureEdges::trackOfKind);
        Edge.of(8, "BAD.", PictureEdges::trackOfBeyond);
        Edge.of(9, "TURN: 1 BEND above 0, -1 below 0, 0 it is 0 (STRAIGHT).", PictureEdges::bendLeastAndGreatest);
        Edge.of(9, "BEND of a TRACK. NO.", PictureEdges::bendOfNoTrack);
        Edge.of(10, "0 x (20 more), 1 y (20 more),", PictureEdges::vertexOfPoint);
        Edge.of(10, "2 the one IN (8: none),", PictureEdges::vertexOfIn);
        Edge.of(10, "3 those OUT (bits).", PictureEdges::vertexOfOut);
        Edge.of(10, "BAD.", PictureEdges::vertexOfBeyond);
        Edge.of(11, "CHARGE (what 0), HEAVY (1), LIGHT (2), STRANGE (3), each 1 more; MASS (4).",
            PictureEdges::numbersOfAll);
        Edge.of(11, "BAD.", PictureEdges::numbersBeyond);
        Edge.of(12, "0 FIELD, 1 TRACKS, 2 VERTICES,", PictureEdges::countAtFirst);
        Edge.of(12, "3 TRACKS whose KIND is told,", PictureEdges::countTold);
        Edge.of(12, "4 CHANGES that can be UNDONE,", PictureEdges::countChanges);
        Edge.of(12, "5 bytes on THE TAPE,", PictureEdges::countTape);
        Edge.of(12, "6 of THE PAPER.", PictureEdges::countPaper);
        Edge.of(12, "BAD.", PictureEdges::countBeyond);
    }

    private static void newObject() {
        TrackChamber x = new TrackChamber();
        int[] due = {3, 0, 0, 0, 0, 0, 0, -1};
        for (int what = 0; what < due.length; what++) {
            Check.due("count(" + what + ")", x.count(what), due[what]);
        }
        Check.due("trackOf(0, 0)", x.trackOf(0, 0), -1);
        Check.due("vertexOf(0, 0)", x.vertexOf(0, 0), -1);
        Check.due("fits(0, 0)", x.fits(0, 0), 0);
        Check.due("through()", x.through(), -2);
        Check.due("rest(2)", x.rest(2), 0);
        Check.due("back()", x.back(), -5);
    }

    private static void twoObjects() {
        TrackChamber x = Chambers.full();
        TrackChamber y = new TrackChamber();
        int[] due = {3, 0, 0, 0, 0, 0, 0};
        for (int what = 0; what < due.length; what++) {
            Check.due("the other's count(" + what + ")", y.count(what), due[what]);
        }
        Check.due("the other's get(0, 23)", y.get(0, 23), NO);
        Check.due("the other's paper(0)", y.paper(0), -2);
        Check.due("the other's back()", y.back(), -5);
        Check.due("the other's track", y.track(1, 1, 2, 2, 3, 4), 0);
        y.kind(0, 4);
        y.feed('x');
        y.list(0, 1);
        Check.due("the first one's x of a", x.trackOf(0, 0), 0);
        Check.due("the first one's KIND", x.trackOf(0, 7), 0);
        Check.due("the first one's LIST", x.get(0, 23), -7);
        Check.due("the first one's TAPE", x.reads(), 2);
        Check.due("the first one's IMAGE", x.back(), 8);
        Check.due("the other's TRACKS", y.count(1), 1);
    }

    private static void fieldWas() {
        TrackChamber x = new TrackChamber();
        Check.due("field(8)", x.field(8), 3);
        Check.due("field(8), as it was", x.field(8), 8);
        x.field(0);
        Check.due("field(2), behind a refused one", x.field(2), 8);
        Check.due("count(0)", x.count(0), 2);
    }

    private static void fieldLeastAndGreatest() {
        TrackChamber x = new TrackChamber();
        Check.due("count(0) at first", x.count(0), 3);
        Check.due("field(1)", x.field(1), 3);
        Check.due("field(9)", x.field(9), 1);
        Check.due("field(1) again", x.field(1), 9);
        Check.due("count(0)", x.count(0), 1);
    }

    private static void fieldBeyond() {
        TrackChamber x = new TrackChamber();
        for (int strength : new int[] {0, 10, -1, -9, 256 + 3, 65536 + 3}) {
            Check.due("field(" + strength + ")", x.field(strength), -1);
        }
        for (int strength : Chambers.FAR) {
            Check.due("field(" + strength + ")", x.field(strength), -1);
        }
        Check.due("FIELD is as it was", x.count(0), 3);
    }

    private static void trackNumbers() {
        TrackChamber x = new TrackChamber();
        Check.due("the first TRACK", x.track(0, 0, 1, 0, 0, 1), 0);
        Check.due("refused", x.track(0, 0, 0, 0, 0, 1), -5);
        Check.due("the next, through the same POINTS", x.track(0, 0, 1, 0, 0, 1), 1);
        x.wipe();
        Check.due("the next behind wipe()", x.track(0, 0, 1, 0, 0, 1), 1);
    }

    private static void eightTracks() {
        TrackChamber x = new TrackChamber();
        for (int i = 0; i < 8; i++) {
            Check.due("TRACK " + i, x.track(i, 0, 0, 1, -1, -1), i);
        }
        Check.due("count(1)", x.count(1), 8);
        Check.due("x of a of TRACK 7", x.trackOf(7, 0), 7);
        Check.due("x of a of TRACK 0", x.trackOf(0, 0), 0);
    }

    private static void gridCorners() {
        TrackChamber x = new TrackChamber();
        Check.due("least and greatest", x.track(-20, -20, 20, 20, -20, 20), 0);
        Check.due("greatest and least", x.track(20, 20, 20, -20, -20, -20), 1);
        Check.due("on(0, 20, -20)", x.on(0, 20, -20), 1);
        Check.due("vertex(20, -20, ..)", x.vertex(20, -20, 0, 2), 0);
        Check.due("vertex(-20, 20, ..)", x.vertex(-20, 20, 1, 1), 1);
        Check.due("fits(-20, -20)", x.fits(-20, -20), 3);
    }

    private static void trackBeyondGrid() {
        TrackChamber x = new TrackChamber();
        int[] just = {21, -21};
        for (int[] some : new int[][] {just, Chambers.FAR}) {
            for (int v : some) {
                Check.due("ax " + v, x.track(v, 0, 1, 1, 2, 0), -1);
                Check.due("ay " + v, x.track(0, v, 1, 1, 2, 0), -1);
                Check.due("bx " + v, x.track(0, 0, v, 1, 2, 0), -1);
                Check.due("by " + v, x.track(0, 0, 1, v, 2, 0), -1);
                Check.due("cx " + v, x.track(0, 0, 1, 1, v, 0), -1);
                Check.due("cy " + v, x.track(0, 0, 1, 1, 2, v), -1);
            }
        }
        Check.due("no TRACK came", x.count(1), 0);
    }

    private static void trackAlike() {
        TrackChamber x = new TrackChamber();
        Check.due("a is b", x.track(7, -3, 7, -3, 2, 0), -5);
        Check.due("a is c", x.track(7, -3, 2, 0, 7, -3), -5);
        Check.due("b is c", x.track(2, 0, 7, -3, 7, -3), -5);
        Check.due("all are one", x.track(0, 0, 0, 0, 0, 0), -5);
        Check.due("no TRACK came", x.count(1), 0);
    }

    private static void trackHalfAlike() {
        TrackChamber x = new TrackChamber();
        Check.due("x of a and b, y of b and c the same", x.track(4, 1, 4, 9, 6, 9), 0);
        Check.due("x of b and c, y of a and c the same", x.track(4, 1, 5, 9, 5, 1), 1);
        Check.due("x of a and c, y of a and b the same", x.track(4, 1, 5, 1, 4, 9), 2);
        Check.due("x of one is y of the other", x.track(1, 2, 2, 1, 3, 7), 3);
        Check.due("of other signs", x.track(1, 2, -1, -2, 1, -2), 4);
        Check.due("all of one x", x.track(3, 0, 3, 1, 3, 2), 5);
        Check.due("all of one y", x.track(0, 3, 1, 3, 2, 3), 6);
        Check.due("one step apart", x.track(20, 20, 19, 20, 20, 19), 7);
    }

    private static void straightAnywhere() {
        TrackChamber x = new TrackChamber();
        Check.due("b between", x.track(0, 0, 2, 1, 4, 2), 0);
        Check.due("b behind c", x.track(0, 0, 8, 4, 4, 2), 1);
        Check.due("b ahead of a", x.track(0, 0, -2, -1, 4, 2), 2);
        for (int track = 0; track < 3; track++) {
            Check.due("TURN of " + track, x.trackOf(track, 6), 1);
            Check.due("TRACK " + track + ": on beyond b and c", x.on(track, 20, 10), 1);
            Check.due("TRACK " + track + ": on ahead of a and b", x.on(track, -20, -10), 1);
        }
    }

    private static void ninthTrack() {
        TrackChamber x = Chambers.eight();
        Check.due("the ninth", x.track(0, 0, 1, 2, 3, 4), -3);
        Check.due("count(1)", x.count(1), 8);
        Check.due("wipe()", x.wipe(), 7);
        Check.due("there is room again", x.track(0, 0, 1, 2, 3, 4), 7);
        Check.due("the ninth again", x.track(0, 0, 1, 2, 3, 4), -3);
    }

    private static void noKindAtFirst() {
        TrackChamber x = new TrackChamber();
        x.track(0, 0, 1, 0, 2, 0);
        Check.due("KIND at first", x.trackOf(0, 7), 12);
        x.kind(0, Chambers.L);
        x.wipe();
        x.track(0, 0, 1, 0, 2, 0);
        Check.due("KIND of a new one in an old one's place", x.trackOf(0, 7), 12);
        Check.due("kind(0, -1)", x.kind(0, -1), 12);
    }

    private static void kindWas() {
        TrackChamber x = Chambers.eight();
        Check.due("kind(0, 0)", x.kind(0, 0), 12);
        Check.due("kind(0, 7)", x.kind(0, 7), 0);
        Check.due("kind(0, 7), as it was", x.kind(0, 7), 7);
        Check.due("kind(0, -1)", x.kind(0, -1), 7);
        Check.due("kind(0, -1), none told already", x.kind(0, -1), 12);
        Check.due("kind(3, 11)", x.kind(3, 11), 12);
        Check.due("kind(3, 2)", x.kind(3, 2), 11);
        Check.due("trackOf(0, 7)", x.trackOf(0, 7), 12);
        Check.due("trackOf(3, 7)", x.trackOf(3, 7), 2);
    }

    private static void kindBeyond() {
        TrackChamber x = Chambers.eight();
        x.wipe();
        x.kind(0, 4);
        for (int kind : new int[] {-2, 12, 13}) {
            Check.due("kind(0, " + kind + ")", x.kind(0, kind), -1);
        }
        for (int track : new int[] {-1, 7, 8}) {
            Check.due("kind(" + track + ", 1)", x.kind(track, 1), -1);
            Check.due("kind(" + track + ", -1)", x.kind(track, -1), -1);
        }
        for (int far : Chambers.FAR) {
            Check.due("kind(0, " + far + ")", x.kind(0, far), -1);
            Check.due("kind(" + far + ", 1)", x.kind(far, 1), -1);
        }
        Check.due("KIND is as it was", x.trackOf(0, 7), 4);
        Check.due("kind, no TRACKS", new TrackChamber().kind(0, -1), -1);
    }

    private static void kindAgainstTurn() {
        TrackChamber x = Chambers.eight();
        int[] charges = {1, 0, -1, 0, 1, -1, 0, 1, -1, 0, 0, -1};
        int[][] trackAndTurn = {{1, 1}, {4, -1}, {6, 0}};
        for (int[] one : trackAndTurn) {
            int before = 12;
            for (int kind = 0; kind < 12; kind++) {
                boolean fits = charges[kind] == one[1];
                Check.due("TURN " + one[1] + ", kind " + kind, x.kind(one[0], kind), fits ? before : -5);
                before = fits ? kind : before;
                Check.due("TURN " + one[1] + ", then KIND", x.trackOf(one[0], 7), before);
            }
        }
    }

    private static void kindOfStraight() {
        TrackChamber x = new TrackChamber();
        // BEND 1 is not STRAIGHT yet, nor is BEND -1.
        x.track(0, 0, 1, 1, 1, 2);
        x.track(0, 0, 1, 1, 2, 1);
        x.track(0, 0, 1, 1, 2, 2);
        Check.due("BEND 1: c", x.kind(0, Chambers.C), -5);
        Check.due("BEND 1: a", x.kind(0, Chambers.A), 12);
        Check.due("BEND -1: c", x.kind(1, Chambers.C), -5);
        Check.due("BEND -1: b", x.kind(1, Chambers.B), 12);
        Check.due("STRAIGHT: a", x.kind(2, Chambers.A), -5);
        Check.due("STRAIGHT: b", x.kind(2, Chambers.B), -5);
        Check.due("STRAIGHT: c", x.kind(2, Chambers.C), 12);
    }

    private static void fourVertices() {
        TrackChamber x = Chambers.eight();
        for (int i = 0; i < 4; i++) {
            Check.due("VERTEX " + i, x.vertex(0, 0, i - 1, 16 << i % 3), i);
        }
        Check.due("count(2)", x.count(2), 4);
        Check.due("OUT of VERTEX 3", x.vertexOf(3, 3), 16);
        x.drop();
        x.drop();
        Check.due("the next behind two drop()", x.vertex(0, 0, -1, 2), 2);
    }

    private static void vertexNoneIn() {
        TrackChamber x = Chambers.eight();
        Check.due("none IN", x.vertex(0, 0, -1, 1), 0);
        Check.due("the one IN of it", x.vertexOf(0, 2), 8);
        Check.due("TRACK 0 IN", x.vertex(0, 0, 0, 2), 1);
        Check.due("the one IN of it", x.vertexOf(1, 2), 0);
        Check.due("in -2", x.vertex(0, 0, -2, 1), -1);
    }

    private static void vertexBeyondGrid() {
        TrackChamber x = Chambers.eight();
        for (int v : new int[] {21, -21}) {
            // TRACK 5 is the line on which y is 0, so only the grid's end keeps these POINTS off it.
            Check.due("x " + v, x.vertex(v, 0, -1, 32), -1);
            Check.due("y " + v, x.vertex(0, v, -1, 32), -1);
        }
        for (int v : Chambers.FAR) {
            Check.due("x " + v, x.vertex(v, 0, -1, 32), -1);
            Check.due("y " + v, x.vertex(0, v, -1, 32), -1);
        }
        Check.due("x 20", x.vertex(20, 0, -1, 32), 0);
        Check.due("x -20", x.vertex(-20, 0, -1, 32), 1);
    }

    private static void vertexInBeyond() {
        TrackChamber x = Chambers.eight();
        x.wipe();
        for (int in : new int[] {-2, 7, 8, 31, 32}) {
            Check.due("in " + in, x.vertex(0, 0, in, 1), -1);
        }
        for (int in : Chambers.FAR) {
            Check.due("in " + in, x.vertex(0, 0, in, 1), -1);
        }
        Check.due("in 6, the last TRACK", x.vertex(0, 0, 6, 1), 0);
    }

    private static void vertexOutOfNoTrack() {
        TrackChamber none = new TrackChamber();
        Check.due("outs 1, no TRACKS", none.vertex(0, 0, -1, 1), -1);
        TrackChamber x = Chambers.eight();
        Check.due("outs 256, eight TRACKS", x.vertex(0, 0, -1, 256), -1);
        x.wipe();
        for (int outs : new int[] {128, 128 + 1, 256, 256 + 3, 1 << 16, 1 << 30, Integer.MIN_VALUE,
            Integer.MIN_VALUE + 1, -1, Integer.MAX_VALUE}) {
            Check.due("outs " + outs + ", seven TRACKS", x.vertex(0, 0, -1, outs), -1);
        }
        Check.due("outs 64, the last TRACK", x.vertex(0, 0, -1, 64), 0);
    }

    private static void vertexNoneOut() {
        TrackChamber x = Chambers.eight();
        Check.due("outs 0, none IN", x.vertex(0, 0, -1, 0), -1);
        Check.due("outs 0, one IN", x.vertex(0, 0, 0, 0), -1);
        Check.due("no VERTEX came", x.count(2), 0);
    }

    private static void vertexFourOut() {
        TrackChamber x = Chambers.eight();
        Check.due("four OUT, none IN", x.vertex(0, 0, -1, 1 + 2 + 4 + 8), -1);
        Check.due("four OUT, one IN", x.vertex(0, 0, 0, 2 + 4 + 8 + 16), -1);
        Check.due("four OUT, far apart", x.vertex(0, 0, -1, 1 + 8 + 32 + 128), -1);
        Check.due("eight OUT", x.vertex(0, 0, -1, 255), -1);
        Check.due("no VERTEX came", x.count(2), 0);
    }

    private static void vertexOneToThree() {
        TrackChamber x = Chambers.eight();
        Check.due("one OUT", x.vertex(0, 0, -1, 128), 0);
        Check.due("two OUT", x.vertex(0, 0, -1, 1 + 128), 1);
        Check.due("three OUT", x.vertex(0, 0, -1, 1 + 2 + 128), 2);
        Check.due("three OUT, one IN", x.vertex(0, 0, 7, 1 + 2 + 64), 3);
        Check.due("OUT of the last", x.vertexOf(3, 3), 67);
    }

    private static void vertexInIsOut() {
        TrackChamber x = Chambers.eight();
        Check.due("the only one OUT is IN", x.vertex(0, 0, 0, 1), -1);
        Check.due("the last one OUT is IN", x.vertex(0, 0, 7, 1 + 2 + 128), -1);
        Check.due("one of two OUT is IN", x.vertex(0, 0, 3, 1 + 8), -1);
        Check.due("another one is IN", x.vertex(0, 0, 2, 1 + 8), 0);
    }

    private static void vertexNotOn() {
        TrackChamber x = Chambers.eight();
        // (4, 4) is ON 0 to 4, (20, 0) ON 5 to 7.
        Check.due("the one IN is not", x.vertex(4, 4, 5, 1 + 2 + 4), -5);
        Check.due("the only one OUT is not", x.vertex(4, 4, 0, 32), -5);
        Check.due("the first one OUT is not", x.vertex(20, 0, 7, 16 + 32 + 64), -5);
        Check.due("the last one OUT is not", x.vertex(4, 4, -1, 1 + 2 + 128), -5);
        Check.due("none of them is", x.vertex(1, 1, 0, 32), -5);
        Check.due("all of them are", x.vertex(4, 4, 0, 2 + 8 + 16), 0);
        Check.due("all of them are, far on the line", x.vertex(20, 0, 5, 64 + 128), 1);
    }

    private static void fifthVertex() {
        TrackChamber x = Chambers.eight();
        for (int i = 0; i < 4; i++) {
            x.vertex(0, 0, -1, 1);
        }
        Check.due("the fifth", x.vertex(0, 0, -1, 1), -3);
        Check.due("count(2)", x.count(2), 4);
        Check.due("drop()", x.drop(), 3);
        Check.due("there is room again", x.vertex(0, 0, -1, 1), 3);
        Check.due("the fifth again", x.vertex(0, 0, -1, 1), -3);
    }

    private static void dropLatest() {
        TrackChamber x = Chambers.eight();
        x.vertex(0, 0, -1, 1);
        x.vertex(0, 0, -1, 2);
        Check.due("drop()", x.drop(), 1);
        Check.due("OUT of VERTEX 0", x.vertexOf(0, 3), 1);
        Check.due("OUT of VERTEX 1", x.vertexOf(1, 3), -1);
        Check.due("drop(), the last one", x.drop(), 0);
        Check.due("OUT of VERTEX 0, gone", x.vertexOf(0, 3), -1);
        Check.due("TRACKS stay", x.count(1), 8);
    }

    private static void dropNone() {
        Check.due("drop(), a new object", new TrackChamber().drop(), -5);
        TrackChamber x = Chambers.eight();
        Check.due("drop(), TRACKS alone", x.drop(), -5);
        x.vertex(0, 0, -1, 1);
        x.drop();
        Check.due("drop(), none left", x.drop(), -5);
        Check.due("count(2)", x.count(2), 0);
    }

    private static void wipeLatest() {
        TrackChamber x = new TrackChamber();
        x.track(0, 0, 1, 0, 0, 1);
        x.track(5, 0, 1, 0, 0, 1);
        x.kind(0, 0);
        x.kind(1, 0);
        Check.due("wipe()", x.wipe(), 1);
        Check.due("TRACK 1", x.trackOf(1, 0), -1);
        Check.due("TRACK 0", x.trackOf(0, 2), 1);
        Check.due("told ones", x.count(3), 1);
        Check.due("wipe(), the last one", x.wipe(), 0);
        Check.due("TRACK 0, gone", x.trackOf(0, 0), -1);
        Check.due("told ones, none", x.count(3), 0);
    }

    private static void wipeNone() {
        TrackChamber x = new TrackChamber();
        Check.due("wipe(), a new object", x.wipe(), -5);
        x.track(0, 0, 1, 0, 0, 1);
        x.wipe();
        Check.due("wipe(), none left", x.wipe(), -5);
        Check.due("count(1)", x.count(1), 0);
    }

    private static void wipeOfVertex() {
        TrackChamber x = Chambers.eight();
        x.vertex(0, 0, 7, 1);
        x.vertex(0, 0, 0, 2);
        Check.due("IN a VERTEX that is not the latest", x.wipe(), -5);
        x.drop();
        Check.due("IN the latest VERTEX", x.wipe(), -5);
        x.drop();
        x.vertex(0, 0, 0, 1 << 1 | 1 << 7);
        x.vertex(0, 0, 0, 2);
        Check.due("OUT of a VERTEX that is not the latest", x.wipe(), -5);
        x.drop();
        Check.due("OUT of the latest VERTEX", x.wipe(), -5);
        x.drop();
        x.vertex(0, 0, 6, 1);
        Check.due("a VERTEX has the one ahead of it alone", x.wipe(), 7);
        Check.due("and that one", x.wipe(), -5);
        Check.due("count(1)", x.count(1), 7);
    }

    private static void trackOfPoints() {
        TrackChamber x = new TrackChamber();
        x.track(-20, 20, 20, -20, 0, 1);
        x.track(1, 2, 3, 4, 6, 5);
        int[][] due = {{-20, 20, 20, -20, 0, 1}, {1, 2, 3, 4, 6, 5}};
        for (int track = 0; track < 2; track++) {
            for (int what = 0; what < 6; what++) {
                Check.due("trackOf(" + track + ", " + what + ")", x.trackOf(track, what), due[track][what]);
            }
        }
    }

    private static void trackOfTurn() {
        TrackChamber x = new TrackChamber();
        x.track(0, 0, 1, 0, 0, 1);
        x.track(0, 0, 0, 1, 1, 0);
        x.track(0, 0, 0, 1, 0, 2);
        Check.due("TURN 1", x.trackOf(0, 6), 2);
        Check.due("TURN -1", x.trackOf(1, 6), 0);
        Check.due("TURN 0", x.trackOf(2, 6), 1);
    }

    private static void trackOfKind() {
        TrackChamber x = Chambers.eight();
        Check.due("none told", x.trackOf(0, 7), 12);
        x.kind(0, 0);
        x.kind(3, 11);
        Check.due("the least KIND", x.trackOf(0, 7), 0);
        Check.due("the greatest KIND", x.trackOf(3, 7), 11);
        x.kind(3, -1);
        Check.due("none told again", x.trackOf(3, 7), 12);
    }

    private static void trackOfBeyond() {
        TrackChamber x = Chambers.eight();
        x.wipe();
        for (int what : new int[] {-1, 8}) {
            Check.due("trackOf(0, " + what + ")", x.trackOf(0, what), -1);
        }
        for (int what = 0; what < 8; what++) {
            Check.due("trackOf(7, " + what + ")", x.trackOf(7, what), -1);
            Check.due("trackOf(-1, " + what + ")", x.trackOf(-1, what), -1);
        }
        for (int far : Chambers.FAR) {
            Check.due("trackOf(0, " + far + ")", x.trackOf(0, far), -1);
            Check.due("trackOf(" + far + ", 0)", x.trackOf(far, 0), -1);
        }
    }

    private static void bendLeastAndGreatest() {
        TrackChamber x = new TrackChamber();
        int[][] points = {{-20, -20, 20, -20, 20, 20}, {-20, -20, 20, 20, 20, -20}, {-20, -20, -1, -2, 19, 17},
            {19, 17, -1, -2, -20, -20}, {-20, -20, 0, 0, 20, 20}, {-20, 20, -20, -20, -20, 0}, {0, 0, 1, 0, 0, 1}};
        int[] due = {1600, -1600, 1, -1, 0, 0, 1};
        for (int track = 0; track < due.length; track++) {
            int[] p = points[track];
            x.track(p[0], p[1], p[2], p[3], p[4], p[5]);
            Check.due("BEND of " + track, x.bend(track), due[track]);
            Check.due("TURN of " + track, x.trackOf(track, 6) - 1, Integer.signum(due[track]));
        }
    }

    private static void bendOfNoTrack() {
        Check.due("bend(0), no TRACKS", new TrackChamber().bend(0), NO);
        TrackChamber x = Chambers.eight();
        Check.due("bend(7)", x.bend(7), 0);
        Check.due("bend(8)", x.bend(8), NO);
        Check.due("bend(-1)", x.bend(-1), NO);
        for (int track : Chambers.FAR) {
            Check.due("bend(" + track + ")", x.bend(track), NO);
        }
        x.wipe();
        Check.due("bend(7), wiped", x.bend(7), NO);
    }

    private static void vertexOfPoint() {
        TrackChamber x = new TrackChamber();
        x.track(-20, -20, 20, 20, 0, 0);
        x.track(-20, 20, 20, -20, 0, 0);
        x.vertex(-20, -20, -1, 1);
        x.vertex(20, 20, -1, 1);
        x.vertex(-20, 20, -1, 2);
        x.vertex(0, 0, 0, 2);
        int[][] due = {{0, 0}, {40, 40}, {0, 40}, {20, 20}};
        for (int vertex = 0; vertex < 4; vertex++) {
            Check.due("x of " + vertex, x.vertexOf(vertex, 0), due[vertex][0]);
            Check.due("y of " + vertex, x.vertexOf(vertex, 1), due[vertex][1]);
        }
    }

    private static void vertexOfIn() {
        TrackChamber x = Chambers.eight();
        x.vertex(0, 0, -1, 1);
        x.vertex(0, 0, 0, 2);
        x.vertex(0, 0, 7, 1);
        Check.due("none", x.vertexOf(0, 2), 8);
        Check.due("TRACK 0", x.vertexOf(1, 2), 0);
        Check.due("TRACK 7", x.vertexOf(2, 2), 7);
    }

    private static void vertexOfOut() {
        TrackChamber x = Chambers.eight();
        x.vertex(0, 0, 7, 1);
        x.vertex(0, 0, 0, 128);
        x.vertex(0, 0, -1, 128 + 64 + 32);
        Check.due("TRACK 0", x.vertexOf(0, 3), 1);
        Check.due("TRACK 7", x.vertexOf(1, 3), 128);
        Check.due("three of them", x.vertexOf(2, 3), 224);
    }

    private static void vertexOfBeyond() {
        Check.due("vertexOf(0, 0), no VERTICES", new TrackChamber().vertexOf(0, 0), -1);
        TrackChamber x = Chambers.eight();
        x.vertex(0, 0, -1, 1);
        for (int what : new int[] {-1, 4}) {
            Check.due("vertexOf(0, " + what + ")", x.vertexOf(0, what), -1);
        }
        for (int what = 0; what < 4; what++) {
            Check.due("vertexOf(1, " + what + ")", x.vertexOf(1, what), -1);
            Check.due("vertexOf(-1, " + what + ")", x.vertexOf(-1, what), -1);
        }
        for (int far : Chambers.FAR) {
            Check.due("vertexOf(0, " + far + ")", x.vertexOf(0, far), -1);
            Check.due("vertexOf(" + far + ", 0)", x.vertexOf(far, 0), -1);
        }
    }

    private static void numbersOfAll() {
        int[][] due = {
            {2, 2, 1, 1, 94}, {1, 2, 1, 1, 94}, {0, 1, 2, 1, 1}, {1, 1, 2, 1, 0}, {2, 1, 1, 1, 14}, {0, 1, 1, 1, 14},
            {1, 1, 1, 1, 13}, {2, 1, 1, 2, 49}, {0, 1, 1, 0, 49}, {1, 1, 1, 2, 50}, {1, 2, 1, 0, 112},
            {0, 2, 1, 0, 120}};
        TrackChamber x = new TrackChamber();
        for (int kind = 0; kind < 12; kind++) {
            for (int what = 0; what < 5; what++) {
                Check.due("numbers(" + kind + ", " + what + ")", x.numbers(kind, what), due[kind][what]);
            }
        }
    }

    private static void numbersBeyond() {
        TrackChamber x = new TrackChamber();
        for (int what = 0; what < 5; what++) {
            Check.due("numbers(-1, " + what + ")", x.numbers(-1, what), -1);
            Check.due("numbers(12, " + what + ")", x.numbers(12, what), -1);
        }
        for (int kind = 0; kind < 12; kind++) {
            Check.due("numbers(" + kind + ", -1)", x.numbers(kind, -1), -1);
            Check.due("numbers(" + kind + ", 5)", x.numbers(kind, 5), -1);
        }
        for (int far : Chambers.FAR) {
            Check.due("numbers(0, " + far + ")", x.numbers(0, far), -1);
            Check.due("numbers(" + far + ", 0)", x.numbers(far, 0), -1);
        }
    }

    private static void countAtFirst() {
        TrackChamber x = new TrackChamber();
        Check.due("FIELD at first", x.count(0), 3);
        Check.due("TRACKS at first", x.count(1), 0);
        Check.due("VERTICES at first", x.count(2), 0);
        TrackChamber y = Chambers.full();
        Check.due("FIELD", y.count(0), 7);
        Check.due("TRACKS, as many as can be", y.count(1), 8);
        Check.due("VERTICES, as many as can be", y.count(2), 4);
    }

    private static void countTold() {
        TrackChamber x = Chambers.eight();
        Check.due("none", x.count(3), 0);
        for (int track = 0; track < 8; track++) {
            x.kind(track, track < 3 ? Chambers.P : track < 5 ? Chambers.S : Chambers.N);
            Check.due("told up to " + track, x.count(3), track + 1);
        }
        x.kind(0, Chambers.A);
        Check.due("another KIND of one that is told", x.count(3), 8);
        x.kind(0, -1);
        Check.due("one no more", x.count(3), 7);
        x.wipe();
        Check.due("one wiped", x.count(3), 6);
    }

    private static void countChanges() {
        TrackChamber x = new TrackChamber();
        for (int i = 1; i <= 12; i++) {
            x.field(i % 9 + 1);
            Check.due("behind " + i + " CHANGES", x.count(4), Math.min(i, 8));
        }
        for (int i = 7; i >= 0; i--) {
            x.undo();
            Check.due("undone to " + i, x.count(4), i);
        }
        x.undo();
        Check.due("undone no further", x.count(4), 0);
        x.field(1);
        Check.due("behind one more", x.count(4), 1);
    }

    private static void countTape() {
        TrackChamber x = new TrackChamber();
        Check.due("at first", x.count(5), 0);
        for (int i = 0; i < 125; i++) {
            x.feed('f');
        }
        Check.due("fed 125", x.count(5), 120);
        x.reads();
        Check.due("behind reads()", x.count(5), 0);
    }

    private static void countPaper() {
        TrackChamber x = Chambers.eight();
        Check.due("at first", x.count(6), 0);
        x.vertex(0, 0, -1, 1);
        x.vertex(0, 0, 0, 2 + 4 + 8);
        Check.due("prints(1)", x.prints(1), 6);
        Check.due("the most that can be", x.count(6), 6);
        Check.due("prints(0)", x.prints(0), 3);
        Check.due("the least that can be", x.count(6), 3);
        x.prints(2);
        Check.due("behind a refused one", x.count(6), 3);
    }

    private static void countBeyond() {
        TrackChamber x = Chambers.full();
        for (int what : new int[] {-1, 7, 8}) {
            Check.due("count(" + what + ")", x.count(what), -1);
        }
        for (int what : Chambers.FAR) {
            Check.due("count(" + what + ")", x.count(what), -1);
        }
    }
}
