/**
 * Tracks in a chamber, as ../shared/DOC.md promises them. Words in capitals in the comments are that document's
 * terms. Every row is made in the constructor and used again: no call makes an object.
 */
public final class TrackChamber {
    public static final int BAD = -1, NOT = -2, FULL = -3, STATE = -5;
    public static final long NO = Long.MIN_VALUE;

    private static final int NOTHING = -11, BEYOND = -13, BELOW = -14;
    private static final int GRID = 20;
    private static final int FIELD_AT_FIRST = 3, FIELDS = 9;
    private static final int MOST_TRACKS = 8, MOST_VERTICES = 4, MOST_OUT = 3;
    private static final int MOST_CHANGES = 8;
    private static final int LISTS = 3, LIST_PLACES = 24;
    private static final int TAPE_BYTES = 120, PAPER_BYTES = 6;
    private static final int LAWS = 3, FAINT = 1, LOOSE = 2;
    private static final int MOST_NOT_TOLD = 3;
    private static final int NOBODY = -1;

    private static final int KINDS = 12, NOT_TOLD = 12;
    private static final String LETTERS = "pnevabckmols";
    private static final int CHARGE = 0, HEAVY = 1, LIGHT = 2, STRANGE = 3, MASS = 4, NUMBERS_OF_A_KIND = 5;
    private static final int[] NUMBERS = {
        1, 1, 0, 0, 94,
        0, 1, 0, 0, 94,
        -1, 0, 1, 0, 1,
        0, 0, 1, 0, 0,
        1, 0, 0, 0, 14,
        -1, 0, 0, 0, 14,
        0, 0, 0, 0, 13,
        1, 0, 0, 1, 49,
        -1, 0, 0, -1, 49,
        0, 0, 0, 1, 50,
        0, 1, 0, -1, 112,
        -1, 1, 0, -1, 120
    };

    private final Picture picture = new Picture();
    private final History history = new History();
    private final Picture kept = new Picture();
    private boolean isKept = false;
    private final Curve[] curves = new Curve[MOST_TRACKS];
    private final Push sum = new Push();
    private final Push single = new Push();
    private final int[] members = new int[1 + MOST_OUT];
    private final Naming naming = new Naming();
    private final Tape tape = new Tape();
    private final char[] printed = new char[PAPER_BYTES];
    private int printedBytes = 0;
    private final Row[] rows = new Row[LISTS];

    public TrackChamber() {
        for (int i = 0; i < MOST_TRACKS; i++) {
            curves[i] = new Curve();
        }
        for (int i = 0; i < LISTS; i++) {
            rows[i] = new Row();
        }
    }

    // ---- the picture

    public int field(int strength) {
        history.draft(picture);
        return history.settle(picture.strengthen(strength));
    }

    public int track(int ax, int ay, int bx, int by, int cx, int cy) {
        history.draft(picture);
        return history.settle(picture.addTrack(ax, ay, bx, by, cx, cy));
    }

    public int kind(int track, int kind) {
        history.draft(picture);
        return history.settle(tell(track, kind));
    }

    public int vertex(int x, int y, int in, int outs) {
        history.draft(picture);
        return history.settle(tie(x, y, in, outs));
    }

    public int drop() {
        history.draft(picture);
        return history.settle(picture.removeVertex());
    }

    public int wipe() {
        history.draft(picture);
        return history.settle(picture.removeTrack());
    }

    public int trackOf(int track, int what) {
        if (!picture.hasTrack(track) || what < 0 || what > 7) {
            return BAD;
        }
        if (what == 6) {
            return curveOf(track).turn() + 1;
        }
        return what == 7 ? picture.kinds[track] : picture.points[6 * track + what];
    }

    public long bend(int track) {
        return picture.hasTrack(track) ? curveOf(track).bending : NO;
    }

    public int vertexOf(int vertex, int what) {
        if (!picture.hasVertex(vertex)) {
            return BAD;
        }
        switch (what) {
            case 0: return picture.xs[vertex] + GRID;
            case 1: return picture.ys[vertex] + GRID;
            case 2: return picture.ins[vertex] == NOBODY ? MOST_TRACKS : picture.ins[vertex];
            case 3: return picture.outs[vertex];
            default: return BAD;
        }
    }

    public int numbers(int kind, int what) {
        if (!isKind(kind) || what < CHARGE || what > MASS) {
            return BAD;
        }
        return what == MASS ? numberOf(kind, MASS) : numberOf(kind, what) + 1;
    }

    public int count(int what) {
        switch (what) {
            case 0: return picture.strength;
            case 1: return picture.tracks;
            case 2: return picture.vertices;
            case 3: return picture.toldTracks();
            case 4: return history.changes;
            case 5: return tape.length;
            case 6: return printedBytes;
            default: return BAD;
        }
    }

    // ---- curves, meetings

    public long centre(int track, int axis, int part) {
        if (!picture.hasTrack(track) || !isAxis(axis) || !isPart(part)) {
            return NO;
        }
        Curve curve = curveOf(track);
        if (curve.isStraight()) {
            return NO;
        }
        long above = axis == 0 ? curve.across : curve.upward;
        return lowest(above * curve.turn(), 2 * Math.abs(curve.bending), part);
    }

    public int on(int track, int x, int y) {
        if (!picture.hasTrack(track) || !isPoint(x, y)) {
            return BAD;
        }
        return curveOf(track).passes(x, y) ? 1 : 0;
    }

    public int meets(int one, int other, int k) {
        if (!picture.hasTrack(one) || !picture.hasTrack(other) || one == other || k < -1) {
            return BAD;
        }
        Curve first = curveOf(one);
        Curve second = curveOf(other);
        int found = 0;
        for (int x = -GRID; x <= GRID; x++) {
            for (int y = -GRID; y <= GRID; y++) {
                if (first.passes(x, y) && second.passes(x, y)) {
                    if (found == k) {
                        return 1000 * (x + GRID) + y + GRID;
                    }
                    found++;
                }
            }
        }
        return k == -1 ? found : NOT;
    }

    public long push(int track, int x, int y, int axis, int part) {
        if (!hasPush(track, x, y) || !isAxis(axis) || !isPart(part)) {
            return NO;
        }
        return pushOf(track, x, y, picture.strength).partAlong(axis, part);
    }

    public int fits(int x, int y) {
        if (!isPoint(x, y)) {
            return BAD;
        }
        int bits = 0;
        for (int track = 0; track < picture.tracks; track++) {
            if (curveOf(track).passes(x, y)) {
                bits |= 1 << track;
            }
        }
        return bits;
    }

    public int through() {
        if (picture.tracks == 0) {
            return NOT;
        }
        for (int track = 0; track < picture.tracks; track++) {
            curveOf(track);
        }
        int most = -1;
        int best = 0;
        for (int x = -GRID; x <= GRID; x++) {
            for (int y = -GRID; y <= GRID; y++) {
                int here = laidCurvesThrough(x, y);
                if (here > most) {
                    most = here;
                    best = 100 * (x + GRID) + y + GRID;
                }
            }
        }
        return 10000 * most + best;
    }

    // ---- balance

    public long lost(int vertex, int what, int part) {
        if (!hasBalance(vertex) || what < 0 || what > 2 || !isPart(part)) {
            return NO;
        }
        Push lost = lostAt(vertex, NOBODY);
        if (what == 2) {
            return part == 0 ? lost.strength() : 1;
        }
        return lost.partAlong(what, part);
    }

    public int even(int vertex) {
        if (!picture.hasVertex(vertex)) {
            return BAD;
        }
        if (!hasBalance(vertex)) {
            return NOT;
        }
        return lostAt(vertex, NOBODY).isNone() ? 1 : 0;
    }

    public int came(int vertex) {
        if (!picture.hasVertex(vertex)) {
            return BAD;
        }
        if (picture.ins[vertex] != NOBODY) {
            return STATE;
        }
        if (!hasBalance(vertex)) {
            return NOT;
        }
        Push lost = lostAt(vertex, NOBODY);
        int bits = 0;
        for (int from = 0; from < picture.vertices; from++) {
            // LOST with none IN is the NEUTRAL's PUSH turned round, so the way back from here is asked for.
            int backX = picture.xs[from] - picture.xs[vertex];
            int backY = picture.ys[from] - picture.ys[vertex];
            if (lost.goesAlong(backX, backY)) {
                bits |= 1 << from;
            }
        }
        return bits;
    }

    public int spoils(int vertex) {
        if (!picture.hasVertex(vertex)) {
            return BAD;
        }
        if (!hasBalance(vertex)) {
            return NOT;
        }
        for (int track = 0; track < picture.tracks; track++) {
            if (picture.goesOut(vertex, track) && lostAt(vertex, track).isNone()) {
                return track;
            }
        }
        return NOT;
    }

    // ---- laws

    public int holds(int vertex, int law, int neutral, int lost) {
        if (!picture.hasVertex(vertex) || !isLaw(law) || (lost != -1 && !isNeutral(lost))) {
            return BAD;
        }
        boolean noneIn = picture.ins[vertex] == NOBODY;
        if (noneIn && !isNeutral(neutral)) {
            return BAD;
        }
        if (askTracks(vertex, law) > 0) {
            return STATE;
        }
        if (noneIn) {
            naming.weigh(neutral, 1);
        }
        if (lost != -1) {
            naming.weigh(lost, -1);
        }
        return naming.isLawful() ? 1 : 0;
    }

    public int names(int vertex, int law, int lost, int k) {
        if (!canBeNamed(vertex, law, lost) || k < -1) {
            return BAD;
        }
        if (askTracks(vertex, law) > MOST_NOT_TOLD) {
            return STATE;
        }
        int ways = waysWith(vertex, lost);
        if (k == -1) {
            return ways;
        }
        return ways == 0 || k >= naming.asked ? NOT : naming.first[k];
    }

    public int calls(int vertex, int law, int lost) {
        if (!canBeNamed(vertex, law, lost)) {
            return BAD;
        }
        int notTold = askTracks(vertex, law);
        if (notTold > MOST_NOT_TOLD) {
            return STATE;
        }
        if (waysWith(vertex, lost) == 0) {
            return NOT;
        }
        history.draft(picture);
        for (int i = 0; i < notTold; i++) {
            picture.kinds[naming.owners[i]] = naming.first[i];
        }
        return history.settle(notTold);
    }

    public int rest(int law) {
        if (!isLaw(law)) {
            return BAD;
        }
        int bits = 0;
        for (int vertex = 0; vertex < picture.vertices; vertex++) {
            if (askTracks(vertex, law) == 0 && waysWith(vertex, 0) > 0) {
                bits |= 1 << vertex;
            }
        }
        return bits;
    }

    // ---- energies

    public long energy(int track, int x, int y, int kind) {
        if (!hasPush(track, x, y) || !isKind(kind)) {
            return NO;
        }
        return energyOf(pushOf(track, x, y, picture.strength), kind);
    }

    public long heat(int vertex, int what) {
        if (what < 0 || what > 2 || !hasHeat(vertex)) {
            return NO;
        }
        long heat = heatBy(vertex, picture.strength);
        if (what == 0) {
            return heat;
        }
        long square = heat * heat - lostAt(vertex, NOBODY).strength();
        long mass = square < 0 ? -1 : wholeRoot(square);
        return what == 1 || mass < 0 ? mass : nearestNeutral(mass);
    }

    public int evens(int vertex) {
        if (!picture.hasVertex(vertex)) {
            return BAD;
        }
        if (!hasHeat(vertex)) {
            return STATE;
        }
        int best = 1;
        long least = Math.abs(heatBy(vertex, 1));
        for (int strength = 2; strength <= FIELDS; strength++) {
            long away = Math.abs(heatBy(vertex, strength));
            if (away < least) {
                least = away;
                best = strength;
            }
        }
        return best;
    }

    // ---- texts

    public int feed(int letter) {
        if (letter < 1 || letter > 127) {
            return BAD;
        }
        return tape.append(letter) ? tape.length : FULL;
    }

    public int reads() {
        int place = tape.faultPlace();
        int answer = place >= 0 ? -1000 - place : doStatements();
        tape.length = 0;
        return answer;
    }

    public int prints(int vertex) {
        if (!picture.hasVertex(vertex)) {
            return BAD;
        }
        printedBytes = 0;
        int in = picture.ins[vertex];
        if (in != NOBODY) {
            printLetter(letterOf(in));
        }
        printLetter('-');
        printLetter('>');
        for (int track = 0; track < picture.tracks; track++) {
            if (picture.goesOut(vertex, track)) {
                printLetter(letterOf(track));
            }
        }
        return printedBytes;
    }

    public int paper(int i) {
        if (i < 0) {
            return BAD;
        }
        return i < printedBytes ? printed[i] : NOT;
    }

    // ---- rows, changes, the image

    public int list(int list, int n) {
        if (!isList(list) || n > LIST_PLACES) {
            return BAD;
        }
        if (n < 0) {
            return BELOW;
        }
        rows[list].become(n);
        return 1;
    }

    public int set(int list, int i, long v) {
        if (!isList(list)) {
            return BAD;
        }
        if (rows[list].holdsNothing()) {
            return NOTHING;
        }
        if (!rows[list].hasPlace(i)) {
            return BEYOND;
        }
        rows[list].places[i] = v;
        return 1;
    }

    public long get(int list, int i) {
        return isList(list) && rows[list].hasPlace(i) ? rows[list].places[i] : NO;
    }

    public int into(int vertex, int list, int p) {
        if (!picture.hasVertex(vertex) || !isList(list)) {
            return BAD;
        }
        Row row = rows[list];
        if (row.holdsNothing()) {
            return NOTHING;
        }
        if (p < 0) {
            return BEYOND;
        }
        if (!hasBalance(vertex)) {
            return NOT;
        }
        int told = 4 * picture.membersOf(vertex, members);
        int i = 0;
        while (i < told && row.hasPlace(p + i)) {
            row.places[p + i] = toldNumber(vertex, i);
            i++;
        }
        return i;
    }

    public int judge(int vertex, int list, int p) {
        if (!picture.hasVertex(vertex) || !isList(list) || p < 0) {
            return BAD;
        }
        Row row = rows[list];
        if (row.holdsNothing()) {
            return NOTHING;
        }
        if (!hasBalance(vertex)) {
            return STATE;
        }
        int told = 4 * picture.membersOf(vertex, members);
        for (int i = 0; i < told; i++) {
            if (!row.hasPlace(p + i)) {
                return 100 + i / 4;
            }
            if (row.places[p + i] != toldNumber(vertex, i)) {
                return i / 4;
            }
        }
        return NOT;
    }

    public int undo() {
        return history.takeBack(picture) ? history.changes : NOT;
    }

    public int image() {
        kept.become(picture);
        isKept = true;
        return picture.tracks;
    }

    public int back() {
        if (!isKept) {
            return STATE;
        }
        picture.become(kept);
        history.forget();
        return picture.tracks;
    }

    // ---- what a call's numbers may be

    private static boolean isPoint(int x, int y) {
        return x >= -GRID && x <= GRID && y >= -GRID && y <= GRID;
    }

    private static boolean isAxis(int axis) {
        return axis == 0 || axis == 1;
    }

    private static boolean isPart(int part) {
        return part == 0 || part == 1;
    }

    private static boolean isKind(int kind) {
        return kind >= 0 && kind < KINDS;
    }

    private static boolean isNeutral(int kind) {
        return isKind(kind) && numberOf(kind, CHARGE) == 0;
    }

    private static boolean isLaw(int law) {
        return law >= 0 && law < LAWS;
    }

    private static boolean isList(int list) {
        return list >= 0 && list < LISTS;
    }

    private static int numberOf(int kind, int what) {
        return NUMBERS[NUMBERS_OF_A_KIND * kind + what];
    }

    // ---- whole numbers

    /** Part 0 or 1 of a fraction in lowest terms; what stands below the line is above 0. */
    private static long lowest(long above, long below, int part) {
        long divisor = Math.max(1, commonDivisor(Math.abs(above), below));
        return (part == 0 ? above : below) / divisor;
    }

    private static long commonDivisor(long one, long other) {
        // Each two steps halve the greater one at least, so 128 are enough for any two longs.
        for (int step = 0; step < 128 && other != 0; step++) {
            long left = one % other;
            one = other;
            other = left;
        }
        return one;
    }

    private static long wholeRoot(long square) {
        long root = 0;
        // No square here comes near to 2 to the 62nd (see Push), so no try's own square wraps round.
        for (int bit = 30; bit >= 0; bit--) {
            long tried = root + (1L << bit);
            if (tried * tried <= square) {
                root = tried;
            }
        }
        return root;
    }

    // ---- helpers of the calls

    private int tell(int track, int kind) {
        if (!picture.hasTrack(track) || (kind != -1 && !isKind(kind))) {
            return BAD;
        }
        if (kind != -1 && numberOf(kind, CHARGE) != curveOf(track).turn()) {
            return STATE;
        }
        int before = picture.kinds[track];
        picture.kinds[track] = kind == -1 ? NOT_TOLD : kind;
        return before;
    }

    private int tie(int x, int y, int in, int outs) {
        if (!isPoint(x, y) || !picture.canTie(in, outs)) {
            return BAD;
        }
        int needed = in == NOBODY ? outs : outs | 1 << in;
        if ((fits(x, y) & needed) != needed) {
            return STATE;
        }
        return picture.addVertex(x, y, in, outs);
    }

    /** The curve of a TRACK, laid anew each time, so that no change of the TRACKS leaves an old one behind. */
    private Curve curveOf(int track) {
        Curve curve = curves[track];
        curve.lay(picture.points, 6 * track);
        return curve;
    }

    private int laidCurvesThrough(int x, int y) {
        int found = 0;
        for (int track = 0; track < picture.tracks; track++) {
            if (curves[track].passes(x, y)) {
                found++;
            }
        }
        return found;
    }

    private boolean hasPush(int track, int x, int y) {
        return picture.hasTrack(track) && isPoint(x, y)
            && curveOf(track).passes(x, y) && !curves[track].isStraight();
    }

    private Push pushOf(int track, int x, int y, int strength) {
        single.clear();
        single.join(curveOf(track), strength, x, y, 1);
        return single;
    }

    private boolean hasBalance(int vertex) {
        if (!picture.hasVertex(vertex)) {
            return false;
        }
        int all = picture.membersOf(vertex, members);
        for (int i = 0; i < all; i++) {
            if (curveOf(members[i]).isStraight()) {
                return false;
            }
        }
        return true;
    }

    /** LOST at a VERTEX with a BALANCE, one of those OUT (or nobody) left out of it. */
    private Push lostAt(int vertex, int without) {
        int all = picture.membersOf(vertex, members);
        sum.clear();
        for (int i = 0; i < all; i++) {
            int track = members[i];
            if (track != without) {
                int side = track == picture.ins[vertex] ? 1 : -1;
                sum.join(curveOf(track), picture.strength, picture.xs[vertex], picture.ys[vertex], side);
            }
        }
        return sum;
    }

    /** The i-th of the numbers that tell the PUSHES of the members found last, four of each. */
    private long toldNumber(int vertex, int i) {
        Push push = pushOf(members[i / 4], picture.xs[vertex], picture.ys[vertex], picture.strength);
        return push.partAlong(i % 4 / 2, i % 2);
    }

    private boolean canBeNamed(int vertex, int law, int lost) {
        return picture.hasVertex(vertex) && isLaw(law) && (lost == 0 || lost == 1);
    }

    /** Begins a NAMING with a VERTEX's TRACKS: how many of them are not told. */
    private int askTracks(int vertex, int law) {
        naming.begin(law);
        int all = picture.membersOf(vertex, members);
        for (int i = 0; i < all; i++) {
            int track = members[i];
            int side = track == picture.ins[vertex] ? 1 : -1;
            if (picture.kinds[track] == NOT_TOLD) {
                naming.ask(track, curveOf(track).turn(), side);
            } else {
                naming.weigh(picture.kinds[track], side);
            }
        }
        return naming.asked;
    }

    /** How many ways the NAMING that has been begun has, with the NEUTRAL and the LOST one that it needs. */
    private int waysWith(int vertex, int lost) {
        if (picture.ins[vertex] == NOBODY) {
            naming.ask(NOBODY, 0, 1);
        }
        if (lost == 1) {
            naming.ask(NOBODY, 0, -1);
        }
        naming.search(0);
        return naming.ways;
    }

    private static long energyOf(Push push, int kind) {
        long mass = numberOf(kind, MASS);
        return wholeRoot(mass * mass + push.strength());
    }

    private boolean hasHeat(int vertex) {
        if (!hasBalance(vertex) || picture.ins[vertex] == NOBODY) {
            return false;
        }
        int all = picture.membersOf(vertex, members);
        for (int i = 0; i < all; i++) {
            if (picture.kinds[members[i]] == NOT_TOLD) {
                return false;
            }
        }
        return true;
    }

    private long heatBy(int vertex, int strength) {
        int all = picture.membersOf(vertex, members);
        long heat = 0;
        for (int i = 0; i < all; i++) {
            int track = members[i];
            Push push = pushOf(track, picture.xs[vertex], picture.ys[vertex], strength);
            long energy = energyOf(push, picture.kinds[track]);
            heat += track == picture.ins[vertex] ? energy : -energy;
        }
        return heat;
    }

    private static int nearestNeutral(long mass) {
        int best = NOBODY;
        long least = Long.MAX_VALUE;
        for (int kind = 0; kind < KINDS; kind++) {
            long away = Math.abs(numberOf(kind, MASS) - mass);
            if (isNeutral(kind) && away < least) {
                least = away;
                best = kind;
            }
        }
        return best;
    }

    /** Does THE TAPE's STATEMENTS, which are without a fault of writing: how many, or the FAULT. */
    private int doStatements() {
        history.draft(picture);
        tape.place = 0;
        int done = 0;
        boolean more = true;
        while (more && done < TAPE_BYTES) {
            int begin = tape.place;
            tape.readStatement();
            if (doStatement() < 0) {
                history.layDraftBack(picture);
                return -2000 - begin;
            }
            done++;
            more = tape.accept(';');
        }
        history.forget();
        return done;
    }

    private int doStatement() {
        int[] n = tape.read;
        switch (tape.statement) {
            case 'f': return picture.strengthen(n[0]);
            case 't': return picture.addTrack(n[0], n[1], n[2], n[3], n[4], n[5]);
            case 'k': return tell(n[0], n[1]);
            default: return tie(n[0], n[1], n[2], n[3]);
        }
    }

    private char letterOf(int track) {
        int kind = picture.kinds[track];
        return isKind(kind) ? LETTERS.charAt(kind) : '?';
    }

    private void printLetter(char letter) {
        if (printedBytes < PAPER_BYTES) {
            printed[printedBytes] = letter;
            printedBytes++;
        }
    }

    /** FIELD, TRACKS with KINDS, VERTICES: all that CHANGES change and THE IMAGE keeps. */
    private static final class Picture {
        private int strength = FIELD_AT_FIRST;
        private int tracks = 0;
        private int vertices = 0;
        private final int[] points = new int[6 * MOST_TRACKS];
        private final int[] kinds = new int[MOST_TRACKS];
        private final int[] xs = new int[MOST_VERTICES];
        private final int[] ys = new int[MOST_VERTICES];
        private final int[] ins = new int[MOST_VERTICES];
        private final int[] outs = new int[MOST_VERTICES];

        private void become(Picture other) {
            strength = other.strength;
            tracks = other.tracks;
            vertices = other.vertices;
            System.arraycopy(other.points, 0, points, 0, 6 * MOST_TRACKS);
            System.arraycopy(other.kinds, 0, kinds, 0, MOST_TRACKS);
            System.arraycopy(other.xs, 0, xs, 0, MOST_VERTICES);
            System.arraycopy(other.ys, 0, ys, 0, MOST_VERTICES);
            System.arraycopy(other.ins, 0, ins, 0, MOST_VERTICES);
            System.arraycopy(other.outs, 0, outs, 0, MOST_VERTICES);
        }

        private boolean hasTrack(int number) {
            return number >= 0 && number < tracks;
        }

        private boolean hasVertex(int number) {
            return number >= 0 && number < vertices;
        }

        private boolean goesOut(int number, int out) {
            return (outs[number] >> out & 1) == 1;
        }

        private int toldTracks() {
            int told = 0;
            for (int i = 0; i < tracks; i++) {
                if (kinds[i] != NOT_TOLD) {
                    told++;
                }
            }
            return told;
        }

        /** A VERTEX's TRACKS come into a row, the one IN, then those OUT by numbers: how many. */
        private int membersOf(int number, int[] row) {
            int found = 0;
            if (ins[number] != NOBODY) {
                row[0] = ins[number];
                found = 1;
            }
            for (int i = 0; i < tracks && found < row.length; i++) {
                if (goesOut(number, i)) {
                    row[found] = i;
                    found++;
                }
            }
            return found;
        }

        private int strengthen(int value) {
            if (value < 1 || value > FIELDS) {
                return BAD;
            }
            int before = strength;
            strength = value;
            return before;
        }

        private int addTrack(int ax, int ay, int bx, int by, int cx, int cy) {
            if (!isPoint(ax, ay) || !isPoint(bx, by) || !isPoint(cx, cy)) {
                return BAD;
            }
            if ((ax == bx && ay == by) || (ax == cx && ay == cy) || (bx == cx && by == cy)) {
                return STATE;
            }
            if (tracks == MOST_TRACKS) {
                return FULL;
            }
            int from = 6 * tracks;
            points[from] = ax;
            points[from + 1] = ay;
            points[from + 2] = bx;
            points[from + 3] = by;
            points[from + 4] = cx;
            points[from + 5] = cy;
            kinds[tracks] = NOT_TOLD;
            tracks++;
            return tracks - 1;
        }

        /** Whether these are TRACKS that a VERTEX can have, wherever they go. */
        private boolean canTie(int in, int out) {
            if ((in != NOBODY && !hasTrack(in)) || out < 1 || out >= 1 << tracks) {
                return false;
            }
            return Integer.bitCount(out) <= MOST_OUT && (in == NOBODY || (out >> in & 1) == 0);
        }

        private int addVertex(int x, int y, int in, int out) {
            if (vertices == MOST_VERTICES) {
                return FULL;
            }
            xs[vertices] = x;
            ys[vertices] = y;
            ins[vertices] = in;
            outs[vertices] = out;
            vertices++;
            return vertices - 1;
        }

        private int removeVertex() {
            if (vertices == 0) {
                return STATE;
            }
            vertices--;
            return vertices;
        }

        private int removeTrack() {
            if (tracks == 0) {
                return STATE;
            }
            int last = tracks - 1;
            for (int i = 0; i < vertices; i++) {
                if (ins[i] == last || goesOut(i, last)) {
                    return STATE;
                }
            }
            tracks = last;
            return tracks;
        }
    }

    /** What was there ahead of each of the latest CHANGES. */
    private static final class History {
        // One more than can be UNDONE: a draft made for a call that is refused then takes no CHANGE's place.
        private static final int ROOMS = MOST_CHANGES + 1;
        private final Picture[] before = new Picture[ROOMS];
        private int next = 0;
        private int changes = 0;

        private History() {
            for (int i = 0; i < ROOMS; i++) {
                before[i] = new Picture();
            }
        }

        private void draft(Picture now) {
            before[next].become(now);
        }

        private void layDraftBack(Picture now) {
            now.become(before[next]);
        }

        /** The draft counts as a CHANGE, if the call's answer is no refusal. */
        private int settle(int answer) {
            if (answer >= 0) {
                next = (next + 1) % ROOMS;
                changes = Math.min(changes + 1, MOST_CHANGES);
            }
            return answer;
        }

        private boolean takeBack(Picture now) {
            if (changes == 0) {
                return false;
            }
            next = (next + ROOMS - 1) % ROOMS;
            changes--;
            now.become(before[next]);
            return true;
        }

        private void forget() {
            changes = 0;
        }
    }

    /**
     * The circle or line of a TRACK: bending * (xx + yy) - across * x - upward * y + offset is 0 for the POINTS ON
     * it. The CENTRE is across, upward by twice bending. With three unlike POINTS of one line bending is 0, while
     * across and upward are not both 0: the same numbers tell that line.
     */
    private static final class Curve {
        private long bending, across, upward, offset;

        private void lay(int[] points, int from) {
            long ax = points[from];
            long ay = points[from + 1];
            long bx = points[from + 2] - ax;
            long by = points[from + 3] - ay;
            long cx = points[from + 4] - ax;
            long cy = points[from + 5] - ay;
            long bb = bx * bx + by * by;
            long cc = cx * cx + cy * cy;
            bending = bx * cy - by * cx;
            across = 2 * bending * ax + cy * bb - by * cc;
            upward = 2 * bending * ay + bx * cc - cx * bb;
            offset = across * ax + upward * ay - bending * (ax * ax + ay * ay);
        }

        private boolean isStraight() {
            return bending == 0;
        }

        private int turn() {
            return Long.signum(bending);
        }

        private boolean passes(int x, int y) {
            return bending * (x * x + y * y) - across * x - upward * y + offset == 0;
        }
    }

    /**
     * A PUSH or PUSHES added up, both parts over one number below the line. A TRACK's below is at most 3200, its
     * above (9 times the product of the three ways between its POINTS, at most) under 1.7 million: those of four
     * TRACKS together stay under 3 times 10 to the 17th, so nothing wraps round, and STRENGTH under 10 to the 14th.
     */
    private static final class Push {
        private long alongX, alongY, below = 1;

        private void clear() {
            alongX = 0;
            alongY = 0;
            below = 1;
        }

        /** Adds (side 1) or takes away (side -1) the PUSH along a curve that is not STRAIGHT, at a POINT ON it. */
        private void join(Curve curve, int strength, int x, int y, int side) {
            long under = 2 * Math.abs(curve.bending);
            long moreX = side * strength * (curve.upward - 2 * curve.bending * y);
            long moreY = side * strength * (2 * curve.bending * x - curve.across);
            alongX = alongX * under + moreX * below;
            alongY = alongY * under + moreY * below;
            below = below * under;
        }

        private boolean isNone() {
            return alongX == 0 && alongY == 0;
        }

        private long partAlong(int axis, int part) {
            return lowest(axis == 0 ? alongX : alongY, below, part);
        }

        private long strength() {
            long divisor = Math.max(1, below);
            long cutX = alongX / divisor;
            long cutY = alongY / divisor;
            return cutX * cutX + cutY * cutY;
        }

        /** Whether a way goes along this PUSH, in its sense; never, if one of them is 0, 0. */
        private boolean goesAlong(int wayX, int wayY) {
            return alongX * wayY == alongY * wayX && alongX * wayX + alongY * wayY > 0;
        }
    }

    /** NAMING: those not told, asked for one behind the other, and all ways to name them by a LAW. */
    private static final class Naming {
        // Four TRACKS and a LOST one, or three TRACKS, a NEUTRAL and a LOST one.
        private static final int MOST_ASKED = 5;
        private final int[] owners = new int[MOST_ASKED];
        private final int[] charges = new int[MOST_ASKED];
        private final int[] sides = new int[MOST_ASKED];
        private final int[] chosen = new int[MOST_ASKED];
        private final int[] first = new int[MOST_ASKED];
        private final int[] excess = new int[MASS];
        private int law, asked, ways;

        private void begin(int byLaw) {
            law = byLaw;
            asked = 0;
            ways = 0;
            for (int what = 0; what < MASS; what++) {
                excess[what] = 0;
            }
        }

        private void ask(int owner, int charge, int side) {
            if (asked < MOST_ASKED) {
                owners[asked] = owner;
                charges[asked] = charge;
                sides[asked] = side;
                asked++;
            }
        }

        /** A KIND's numbers come to those IN (side 1) or to those OUT (side -1). */
        private void weigh(int kind, int side) {
            for (int what = 0; what < MASS; what++) {
                excess[what] += side * numberOf(kind, what);
            }
        }

        private boolean isLawful() {
            if (excess[CHARGE] != 0 || excess[HEAVY] != 0) {
                return false;
            }
            if (law == LOOSE) {
                return true;
            }
            return excess[LIGHT] == 0 && Math.abs(excess[STRANGE]) <= (law == FAINT ? 1 : 0);
        }

        /** Goes through all KINDS of those from this place on; at most MOST_ASKED levels deep. */
        private void search(int place) {
            if (place >= asked || place >= MOST_ASKED) {
                countWay();
                return;
            }
            for (int kind = 0; kind < KINDS; kind++) {
                if (numberOf(kind, CHARGE) == charges[place]) {
                    chosen[place] = kind;
                    weigh(kind, sides[place]);
                    search(place + 1);
                    weigh(kind, -sides[place]);
                }
            }
        }

        private void countWay() {
            if (!isLawful()) {
                return;
            }
            if (ways == 0) {
                System.arraycopy(chosen, 0, first, 0, MOST_ASKED);
            }
            ways++;
        }
    }

    /** THE TAPE, and how a PICTURE's STATEMENTS are read from it. */
    private static final class Tape {
        private final byte[] bytes = new byte[TAPE_BYTES];
        private int length = 0;
        private int place = 0;
        private int statement = 0;
        /** The numbers of the STATEMENT read last, in the order of its call's arguments. */
        private final int[] read = new int[6];

        private boolean append(int letter) {
            if (length >= TAPE_BYTES) {
                return false;
            }
            bytes[length] = (byte) letter;
            length++;
            return true;
        }

        /** The place of the first byte with which no text goes on; -1: it is a PICTURE as it is written. */
        private int faultPlace() {
            place = 0;
            for (int done = 0; done < TAPE_BYTES; done++) {
                if (!readStatement()) {
                    return place;
                }
                if (place == length) {
                    return -1;
                }
                if (!accept(';')) {
                    return place;
                }
            }
            return place;
        }

        /** Each reader goes on behind what it reads, and stays at the first byte that can't stand there. */
        private boolean readStatement() {
            statement = here();
            if (statement != 'f' && statement != 't' && statement != 'k' && statement != 'v') {
                return false;
            }
            place++;
            switch (statement) {
                case 'f': return readFigure(0);
                case 't': return readNumbers(6);
                case 'k': return readFigure(0) && readKind();
                default: return readNumbers(2) && readTies();
            }
        }

        /** The byte that comes next; 0, which THE TAPE never has, behind its end. */
        private int here() {
            return place < length ? bytes[place] : 0;
        }

        private boolean accept(char letter) {
            if (here() != letter) {
                return false;
            }
            place++;
            return true;
        }

        private boolean isFigureHere() {
            return here() >= '0' && here() <= '9';
        }

        private boolean readFigure(int to) {
            if (!isFigureHere()) {
                return false;
            }
            read[to] = here() - '0';
            place++;
            return true;
        }

        private boolean readNumbers(int many) {
            for (int i = 0; i < many; i++) {
                if ((i > 0 && !accept(',')) || !readNumber(i)) {
                    return false;
                }
            }
            return true;
        }

        private boolean readNumber(int to) {
            int sign = accept('-') ? -1 : 1;
            if (!readFigure(to)) {
                return false;
            }
            int value = read[to];
            if (readFigure(to)) {
                value = 10 * value + read[to];
            }
            read[to] = sign * value;
            return true;
        }

        private boolean readKind() {
            int kind = LETTERS.indexOf((char) here());
            if (kind < 0) {
                return false;
            }
            read[1] = kind;
            place++;
            return true;
        }

        /** The one IN and those OUT of a VERTEX, which come behind its POINT. */
        private boolean readTies() {
            read[2] = NOBODY;
            if (accept('<') && !readFigure(2)) {
                return false;
            }
            int outs = 0;
            for (int i = 0; i < MOST_OUT; i++) {
                if (accept('>')) {
                    if (!readFigure(3)) {
                        return false;
                    }
                    outs |= 1 << read[3];
                } else if (i == 0) {
                    return false;
                } else {
                    break;
                }
            }
            read[3] = outs;
            return true;
        }
    }

    /** A LIST. */
    private static final class Row {
        private final long[] places = new long[LIST_PLACES];
        private int size = -1;

        private void become(int n) {
            for (int i = 0; i < LIST_PLACES; i++) {
                places[i] = 0;
            }
            size = n;
        }

        private boolean holdsNothing() {
            return size < 0;
        }

        private boolean hasPlace(int i) {
            return i >= 0 && i < size;
        }
    }
}
