import java.math.BigInteger;
import java.util.ArrayDeque;
import java.util.ArrayList;
import java.util.List;
import java.util.regex.Matcher;
import java.util.regex.Pattern;

/**
 * The document's calls once more, in another way than the program's: fractions of BigInteger, a CENTRE from two
 * upright bisectors, ON by distances, copies of all that is there for each CHANGE, all KINDS tried for each place of
 * a NAMING, a regular expression for PICTURES. For tests alone.
 */
final class Plain {
    static final int BAD = -1, NOT = -2, FULL = -3, STATE = -5, NOTHING = -11, BEYOND = -13, BELOW = -14;
    static final long NO = Long.MIN_VALUE;

    record Fraction(BigInteger above, BigInteger below) {
        static final Fraction ZERO = of(0);

        static Fraction of(long v) {
            return new Fraction(BigInteger.valueOf(v), BigInteger.ONE);
        }

        static Fraction make(BigInteger above, BigInteger below) {
            BigInteger g = above.gcd(below);
            if (below.signum() < 0) {
                g = g.negate();
            }
            return new Fraction(above.divide(g), below.divide(g));
        }

        Fraction plus(Fraction o) {
            return make(above.multiply(o.below).add(o.above.multiply(below)), below.multiply(o.below));
        }

        Fraction minus(Fraction o) {
            return plus(o.times(of(-1)));
        }

        Fraction times(Fraction o) {
            return make(above.multiply(o.above), below.multiply(o.below));
        }

        Fraction by(Fraction o) {
            return make(above.multiply(o.below), below.multiply(o.above));
        }

        int sign() {
            return above.signum();
        }

        BigInteger cut() {
            return above.divide(below);
        }

        long part(int part) {
            return (part == 0 ? above : below).longValueExact();
        }
    }

    record Kind(char letter, int charge, int heavy, int light, int strange, int mass) {
    }

    static final List<Kind> KINDS = List.of(
        new Kind('p', 1, 1, 0, 0, 94), new Kind('n', 0, 1, 0, 0, 94), new Kind('e', -1, 0, 1, 0, 1),
        new Kind('v', 0, 0, 1, 0, 0), new Kind('a', 1, 0, 0, 0, 14), new Kind('b', -1, 0, 0, 0, 14),
        new Kind('c', 0, 0, 0, 0, 13), new Kind('k', 1, 0, 0, 1, 49), new Kind('m', -1, 0, 0, -1, 49),
        new Kind('o', 0, 0, 0, 1, 50), new Kind('l', 0, 1, 0, -1, 112), new Kind('s', -1, 1, 0, -1, 120));

    record Track(List<Integer> points, int kind) {
        int at(int i) {
            return points.get(i);
        }

        long bend() {
            return (long) (at(2) - at(0)) * (at(5) - at(1)) - (long) (at(3) - at(1)) * (at(4) - at(0));
        }

        int turn() {
            return bend() > 0 ? 1 : bend() < 0 ? -1 : 0;
        }

        /** Where the two upright bisectors of a b and a c meet. */
        Fraction[] centre() {
            // 2 (bx - ax) x + 2 (by - ay) y = bb - aa, and so for c; by Cramer.
            Fraction a = Fraction.of(2L * (at(2) - at(0))), b = Fraction.of(2L * (at(3) - at(1)));
            Fraction c = Fraction.of(2L * (at(4) - at(0))), d = Fraction.of(2L * (at(5) - at(1)));
            long aa = (long) at(0) * at(0) + (long) at(1) * at(1);
            Fraction e = Fraction.of((long) at(2) * at(2) + (long) at(3) * at(3) - aa);
            Fraction f = Fraction.of((long) at(4) * at(4) + (long) at(5) * at(5) - aa);
            Fraction det = a.times(d).minus(b.times(c));
            return new Fraction[] {e.times(d).minus(b.times(f)).by(det), a.times(f).minus(e.times(c)).by(det)};
        }

        boolean on(int x, int y) {
            if (turn() == 0) {
                return new Track(List.of(at(0), at(1), at(2), at(3), x, y), -1).bend() == 0;
            }
            Fraction[] m = centre();
            return far(m, x, y).minus(far(m, at(0), at(1))).sign() == 0;
        }

        static Fraction far(Fraction[] m, int x, int y) {
            Fraction dx = m[0].minus(Fraction.of(x)), dy = m[1].minus(Fraction.of(y));
            return dx.times(dx).plus(dy.times(dy));
        }

        Fraction[] push(int x, int y, int field) {
            Fraction[] m = centre();
            Fraction f = Fraction.of((long) field * turn());
            return new Fraction[] {f.times(m[1].minus(Fraction.of(y))), f.times(Fraction.of(x).minus(m[0]))};
        }
    }

    record Vertex(int x, int y, int in, int outs) {
        List<Integer> out() {
            List<Integer> list = new ArrayList<>();
            for (int i = 0; i < 32; i++) {
                if ((outs >>> i & 1) == 1) {
                    list.add(i);
                }
            }
            return list;
        }

        List<Integer> all() {
            List<Integer> list = out();
            if (in >= 0) {
                list.add(0, in);
            }
            return list;
        }
    }

    record All(int field, List<Track> tracks, List<Vertex> vertices) {
    }

    private int field = 3;
    private List<Track> tracks = new ArrayList<>();
    private List<Vertex> vertices = new ArrayList<>();
    private final ArrayDeque<All> changes = new ArrayDeque<>();
    private All kept = null;
    private String tape = "";
    private String paper = "";
    private final long[][] lists = new long[3][];

    private All all() {
        return new All(field, List.copyOf(tracks), List.copyOf(vertices));
    }

    private void lay(All all) {
        field = all.field;
        tracks = new ArrayList<>(all.tracks);
        vertices = new ArrayList<>(all.vertices);
    }

    private void change() {
        changes.addLast(all());
        if (changes.size() > 8) {
            changes.removeFirst();
        }
    }

    private static boolean in(int v, int least, int most) {
        return v >= least && v <= most;
    }

    private static boolean grid(int... v) {
        for (int one : v) {
            if (!in(one, -20, 20)) {
                return false;
            }
        }
        return true;
    }

    private boolean isTrack(int t) {
        return in(t, 0, tracks.size() - 1);
    }

    private boolean isVertex(int v) {
        return in(v, 0, vertices.size() - 1);
    }

    int field(int f) {
        if (!in(f, 1, 9)) {
            return BAD;
        }
        change();
        int was = field;
        field = f;
        return was;
    }

    int track(int ax, int ay, int bx, int by, int cx, int cy) {
        if (!grid(ax, ay, bx, by, cx, cy)) {
            return BAD;
        }
        List<Integer> a = List.of(ax, ay), b = List.of(bx, by), c = List.of(cx, cy);
        if (a.equals(b) || b.equals(c) || a.equals(c)) {
            return STATE;
        }
        if (tracks.size() == 8) {
            return FULL;
        }
        change();
        tracks.add(new Track(List.of(ax, ay, bx, by, cx, cy), 12));
        return tracks.size() - 1;
    }

    int kind(int t, int k) {
        if (!isTrack(t) || !in(k, -1, 11)) {
            return BAD;
        }
        Track was = tracks.get(t);
        if (k >= 0 && KINDS.get(k).charge != was.turn()) {
            return STATE;
        }
        change();
        tracks.set(t, new Track(was.points, k < 0 ? 12 : k));
        return was.kind;
    }

    int vertex(int x, int y, int in, int outs) {
        if (!grid(x, y) || !in(in, -1, tracks.size() - 1)) {
            return BAD;
        }
        Vertex v = new Vertex(x, y, in, outs);
        List<Integer> out = v.out();
        if (out.isEmpty() || out.size() > 3 || out.contains(in)) {
            return BAD;
        }
        for (int t : out) {
            if (!isTrack(t)) {
                return BAD;
            }
        }
        for (int t : v.all()) {
            if (!tracks.get(t).on(x, y)) {
                return STATE;
            }
        }
        if (vertices.size() == 4) {
            return FULL;
        }
        change();
        vertices.add(v);
        return vertices.size() - 1;
    }

    int drop() {
        if (vertices.isEmpty()) {
            return STATE;
        }
        change();
        vertices.remove(vertices.size() - 1);
        return vertices.size();
    }

    int wipe() {
        int last = tracks.size() - 1;
        if (last < 0 || vertices.stream().anyMatch(v -> v.all().contains(last))) {
            return STATE;
        }
        change();
        tracks.remove(last);
        return last;
    }

    int trackOf(int t, int what) {
        if (!isTrack(t) || !in(what, 0, 7)) {
            return BAD;
        }
        Track track = tracks.get(t);
        return what < 6 ? track.at(what) : what == 6 ? track.turn() + 1 : track.kind;
    }

    long bend(int t) {
        return isTrack(t) ? tracks.get(t).bend() : NO;
    }

    int vertexOf(int v, int what) {
        if (!isVertex(v) || !in(what, 0, 3)) {
            return BAD;
        }
        Vertex o = vertices.get(v);
        return new int[] {o.x + 20, o.y + 20, o.in < 0 ? 8 : o.in, o.outs}[what];
    }

    int numbers(int k, int what) {
        if (!in(k, 0, 11) || !in(what, 0, 4)) {
            return BAD;
        }
        Kind o = KINDS.get(k);
        return new int[] {o.charge + 1, o.heavy + 1, o.light + 1, o.strange + 1, o.mass}[what];
    }

    int count(int what) {
        if (!in(what, 0, 6)) {
            return BAD;
        }
        int told = (int) tracks.stream().filter(t -> t.kind != 12).count();
        return new int[] {field, tracks.size(), vertices.size(), told, changes.size(), tape.length(),
            paper.length()}[what];
    }

    long centre(int t, int axis, int part) {
        if (!isTrack(t) || !in(axis, 0, 1) || !in(part, 0, 1) || tracks.get(t).turn() == 0) {
            return NO;
        }
        return tracks.get(t).centre()[axis].part(part);
    }

    int on(int t, int x, int y) {
        return !isTrack(t) || !grid(x, y) ? BAD : tracks.get(t).on(x, y) ? 1 : 0;
    }

    int meets(int one, int other, int k) {
        if (!isTrack(one) || !isTrack(other) || one == other || k < -1) {
            return BAD;
        }
        List<Integer> found = new ArrayList<>();
        for (int x = -20; x <= 20; x++) {
            for (int y = -20; y <= 20; y++) {
                if (tracks.get(one).on(x, y) && tracks.get(other).on(x, y)) {
                    found.add(1000 * (x + 20) + y + 20);
                }
            }
        }
        return k == -1 ? found.size() : k < found.size() ? found.get(k) : NOT;
    }

    private boolean pushes(int t, int x, int y) {
        return isTrack(t) && grid(x, y) && tracks.get(t).turn() != 0 && tracks.get(t).on(x, y);
    }

    long push(int t, int x, int y, int axis, int part) {
        if (!pushes(t, x, y) || !in(axis, 0, 1) || !in(part, 0, 1)) {
            return NO;
        }
        return tracks.get(t).push(x, y, field)[axis].part(part);
    }

    int fits(int x, int y) {
        if (!grid(x, y)) {
            return BAD;
        }
        int bits = 0;
        for (int t = 0; t < tracks.size(); t++) {
            bits += tracks.get(t).on(x, y) ? 1 << t : 0;
        }
        return bits;
    }

    int through() {
        if (tracks.isEmpty()) {
            return NOT;
        }
        int best = -1;
        for (int x = 20; x >= -20; x--) {
            for (int y = 20; y >= -20; y--) {
                int many = Integer.bitCount(fits(x, y));
                if (many >= best / 10000) {
                    best = 10000 * many + 100 * (x + 20) + y + 20;
                }
            }
        }
        return best;
    }

    private boolean balance(int v) {
        return vertices.get(v).all().stream().allMatch(t -> tracks.get(t).turn() != 0);
    }

    private Fraction[] lostWithout(int v, int without) {
        Vertex o = vertices.get(v);
        Fraction[] sum = {Fraction.ZERO, Fraction.ZERO};
        if (o.in >= 0) {
            sum = tracks.get(o.in).push(o.x, o.y, field);
        }
        for (int t : o.out()) {
            if (t != without) {
                Fraction[] p = tracks.get(t).push(o.x, o.y, field);
                sum = new Fraction[] {sum[0].minus(p[0]), sum[1].minus(p[1])};
            }
        }
        return sum;
    }

    private static boolean isNone(Fraction[] p) {
        return p[0].sign() == 0 && p[1].sign() == 0;
    }

    private static BigInteger strength(Fraction[] p) {
        return p[0].cut().pow(2).add(p[1].cut().pow(2));
    }

    long lost(int v, int what, int part) {
        if (!isVertex(v) || !in(what, 0, 2) || !in(part, 0, 1) || !balance(v)) {
            return NO;
        }
        Fraction[] lost = lostWithout(v, -1);
        return what < 2 ? lost[what].part(part) : part == 1 ? 1 : strength(lost).longValueExact();
    }

    int even(int v) {
        return !isVertex(v) ? BAD : !balance(v) ? NOT : isNone(lostWithout(v, -1)) ? 1 : 0;
    }

    int came(int v) {
        if (!isVertex(v)) {
            return BAD;
        }
        Vertex here = vertices.get(v);
        if (here.in >= 0) {
            return STATE;
        }
        if (!balance(v)) {
            return NOT;
        }
        Fraction px = Fraction.ZERO, py = Fraction.ZERO;
        for (int t : here.out()) {
            Fraction[] p = tracks.get(t).push(here.x, here.y, field);
            px = px.plus(p[0]);
            py = py.plus(p[1]);
        }
        int bits = 0;
        for (int i = 0; i < vertices.size(); i++) {
            int wx = here.x - vertices.get(i).x, wy = here.y - vertices.get(i).y;
            boolean along;
            if (wx == 0 && wy == 0 || px.sign() == 0 && py.sign() == 0) {
                along = false;
            } else if (wx == 0) {
                along = px.sign() == 0 && py.sign() == Integer.signum(wy);
            } else {
                // The PUSH is a positive number times the way.
                Fraction times = px.by(Fraction.of(wx));
                along = times.sign() > 0 && times.times(Fraction.of(wy)).minus(py).sign() == 0;
            }
            bits += along ? 1 << i : 0;
        }
        return bits;
    }

    int spoils(int v) {
        if (!isVertex(v)) {
            return BAD;
        }
        if (balance(v)) {
            for (int t : vertices.get(v).out()) {
                if (isNone(lostWithout(v, t))) {
                    return t;
                }
            }
        }
        return NOT;
    }

    private static boolean lawful(int law, List<Integer> in, List<Integer> out) {
        int[] a = new int[4], b = new int[4];
        for (int k : in) {
            add(a, KINDS.get(k));
        }
        for (int k : out) {
            add(b, KINDS.get(k));
        }
        boolean loose = a[0] == b[0] && a[1] == b[1];
        boolean faint = loose && a[2] == b[2] && Math.abs(a[3] - b[3]) <= 1;
        return law == 2 ? loose : law == 1 ? faint : faint && a[3] == b[3];
    }

    private static void add(int[] sum, Kind k) {
        sum[0] += k.charge;
        sum[1] += k.heavy;
        sum[2] += k.light;
        sum[3] += k.strange;
    }

    private static boolean neutral(int k) {
        return in(k, 0, 11) && KINDS.get(k).charge == 0;
    }

    private boolean told(int v) {
        return vertices.get(v).all().stream().allMatch(t -> tracks.get(t).kind != 12);
    }

    int holds(int v, int law, int neutral, int lost) {
        if (!isVertex(v) || !in(law, 0, 2) || lost != -1 && !neutral(lost)) {
            return BAD;
        }
        Vertex o = vertices.get(v);
        if (o.in < 0 && !neutral(neutral)) {
            return BAD;
        }
        if (!told(v)) {
            return STATE;
        }
        List<Integer> out = new ArrayList<>();
        for (int t : o.out()) {
            out.add(tracks.get(t).kind);
        }
        if (lost >= 0) {
            out.add(lost);
        }
        return lawful(law, List.of(o.in < 0 ? neutral : tracks.get(o.in).kind), out) ? 1 : 0;
    }

    /** All ways, each: KINDS of the one IN or NEUTRAL, of those OUT, of the LOST one (if asked with one). */
    private List<List<Integer>> ways(int v, int law, int lost) {
        Vertex o = vertices.get(v);
        List<List<Integer>> choices = new ArrayList<>();
        choices.add(o.in < 0 ? fitting(0, 12) : fitting(tracks.get(o.in).turn(), tracks.get(o.in).kind));
        for (int t : o.out()) {
            choices.add(fitting(tracks.get(t).turn(), tracks.get(t).kind));
        }
        if (lost == 1) {
            choices.add(fitting(0, 12));
        }
        List<List<Integer>> some = List.of(List.of());
        for (List<Integer> choice : choices) {
            List<List<Integer>> more = new ArrayList<>();
            for (List<Integer> way : some) {
                for (int k : choice) {
                    List<Integer> longer = new ArrayList<>(way);
                    longer.add(k);
                    more.add(longer);
                }
            }
            some = more;
        }
        List<List<Integer>> lawful = new ArrayList<>();
        for (List<Integer> way : some) {
            if (lawful(law, way.subList(0, 1), way.subList(1, way.size()))) {
                lawful.add(way);
            }
        }
        return lawful;
    }

    private static List<Integer> fitting(int turn, int kind) {
        if (kind != 12) {
            return List.of(kind);
        }
        List<Integer> list = new ArrayList<>();
        for (int k = 0; k < 12; k++) {
            if (KINDS.get(k).charge == turn) {
                list.add(k);
            }
        }
        return list;
    }

    /** A way's KINDS as the document counts them: TRACKS not told, NEUTRAL, LOST one. */
    private List<Integer> counted(int v, List<Integer> way, int lost) {
        Vertex o = vertices.get(v);
        List<Integer> list = new ArrayList<>();
        if (o.in >= 0 && tracks.get(o.in).kind == 12) {
            list.add(way.get(0));
        }
        for (int i = 0; i < o.out().size(); i++) {
            if (tracks.get(o.out().get(i)).kind == 12) {
                list.add(way.get(i + 1));
            }
        }
        if (o.in < 0) {
            list.add(way.get(0));
        }
        if (lost == 1) {
            list.add(way.get(way.size() - 1));
        }
        return list;
    }

    private List<Integer> firstWay(int v, int law, int lost) {
        List<Integer> first = null;
        for (List<Integer> way : ways(v, law, lost)) {
            List<Integer> one = counted(v, way, lost);
            if (first == null || less(one, first)) {
                first = one;
            }
        }
        return first;
    }

    private static boolean less(List<Integer> one, List<Integer> other) {
        for (int i = 0; i < one.size(); i++) {
            if (!one.get(i).equals(other.get(i))) {
                return one.get(i) < other.get(i);
            }
        }
        return false;
    }

    private List<Integer> notTold(int v) {
        return vertices.get(v).all().stream().filter(t -> tracks.get(t).kind == 12).toList();
    }

    int names(int v, int law, int lost, int k) {
        if (!isVertex(v) || !in(law, 0, 2) || !in(lost, 0, 1) || k < -1) {
            return BAD;
        }
        if (notTold(v).size() > 3) {
            return STATE;
        }
        if (k == -1) {
            return ways(v, law, lost).size();
        }
        List<Integer> first = firstWay(v, law, lost);
        return first == null || k >= first.size() ? NOT : first.get(k);
    }

    int calls(int v, int law, int lost) {
        if (!isVertex(v) || !in(law, 0, 2) || !in(lost, 0, 1)) {
            return BAD;
        }
        List<Integer> who = notTold(v);
        if (who.size() > 3) {
            return STATE;
        }
        List<Integer> first = firstWay(v, law, lost);
        if (first == null) {
            return NOT;
        }
        change();
        for (int i = 0; i < who.size(); i++) {
            tracks.set(who.get(i), new Track(tracks.get(who.get(i)).points, first.get(i)));
        }
        return who.size();
    }

    int rest(int law) {
        if (!in(law, 0, 2)) {
            return BAD;
        }
        int bits = 0;
        for (int v = 0; v < vertices.size(); v++) {
            boolean some = false;
            for (int k = 0; k < 12; k++) {
                some |= holds(v, law, k, -1) == 1;
            }
            bits += some ? 1 << v : 0;
        }
        return bits;
    }

    private static long energyOf(Track t, int x, int y, int kind, int field) {
        return BigInteger.valueOf(KINDS.get(kind).mass).pow(2).add(strength(t.push(x, y, field))).sqrt()
            .longValueExact();
    }

    long energy(int t, int x, int y, int kind) {
        return !pushes(t, x, y) || !in(kind, 0, 11) ? NO : energyOf(tracks.get(t), x, y, kind, field);
    }

    private long heatBy(int v, int f) {
        Vertex o = vertices.get(v);
        long heat = 0;
        for (int t : o.all()) {
            heat += (t == o.in ? 1 : -1) * energyOf(tracks.get(t), o.x, o.y, tracks.get(t).kind, f);
        }
        return heat;
    }

    private boolean hot(int v) {
        return vertices.get(v).in >= 0 && told(v) && balance(v);
    }

    long heat(int v, int what) {
        if (!isVertex(v) || !in(what, 0, 2) || !hot(v)) {
            return NO;
        }
        long heat = heatBy(v, field);
        BigInteger left = BigInteger.valueOf(heat).pow(2).subtract(strength(lostWithout(v, -1)));
        long mass = left.signum() < 0 ? -1 : left.sqrt().longValueExact();
        if (what < 2) {
            return what == 0 ? heat : mass;
        }
        for (int away = 0; mass >= 0; away++) {
            for (int k = 0; k < 12; k++) {
                if (neutral(k) && Math.abs(KINDS.get(k).mass - mass) == away) {
                    return k;
                }
            }
        }
        return -1;
    }

    int evens(int v) {
        if (!isVertex(v)) {
            return BAD;
        }
        if (!hot(v)) {
            return STATE;
        }
        int best = 9;
        for (int f = 8; f >= 1; f--) {
            best = Math.abs(heatBy(v, f)) <= Math.abs(heatBy(v, best)) ? f : best;
        }
        return best;
    }

    int feed(int letter) {
        if (!in(letter, 1, 127)) {
            return BAD;
        }
        if (tape.length() == 120) {
            return FULL;
        }
        tape += (char) letter;
        return tape.length();
    }

    private static final String NUMBER = "-?[0-9][0-9]?";
    private static final String STATEMENT = "(?:f[0-9]|t" + NUMBER + "(?:," + NUMBER + "){5}|k[0-9][pnevabckmols]|v"
        + NUMBER + "," + NUMBER + "(?:<[0-9])?(?:>[0-9]){1,3})";
    private static final Pattern PICTURE = Pattern.compile(STATEMENT + "(?:;" + STATEMENT + ")*");

    /** Whether a text can go on to a PICTURE, or is one: found by trying what may follow it. */
    private static boolean goesOn(String text) {
        Matcher m = PICTURE.matcher(text);
        return m.matches() || m.hitEnd();
    }

    int reads() {
        String text = tape;
        tape = "";
        for (int i = 0; i < text.length(); i++) {
            if (!goesOn(text.substring(0, i + 1))) {
                return -1000 - i;
            }
        }
        if (!PICTURE.matcher(text).matches()) {
            return -1000 - text.length();
        }
        All before = all();
        ArrayDeque<All> changesBefore = new ArrayDeque<>(changes);
        int place = 0;
        String[] statements = text.split(";");
        for (String s : statements) {
            if (doOne(s) < 0) {
                lay(before);
                changes.clear();
                changes.addAll(changesBefore);
                return -2000 - place;
            }
            place += s.length() + 1;
        }
        changes.clear();
        return statements.length;
    }

    private int doOne(String s) {
        String rest = s.substring(1);
        switch (s.charAt(0)) {
            case 'f':
                return field(Integer.parseInt(rest));
            case 't':
                String[] n = rest.split(",");
                return track(Integer.parseInt(n[0]), Integer.parseInt(n[1]), Integer.parseInt(n[2]),
                    Integer.parseInt(n[3]), Integer.parseInt(n[4]), Integer.parseInt(n[5]));
            case 'k':
                int kind = 0;
                while (KINDS.get(kind).letter != rest.charAt(1)) {
                    kind++;
                }
                return kind(rest.charAt(0) - '0', kind);
            default:
                String[] p = rest.split("[,<>]");
                int in = rest.contains("<") ? Integer.parseInt(p[2]) : -1;
                int outs = 0;
                for (int i = in < 0 ? 2 : 3; i < p.length; i++) {
                    outs |= 1 << Integer.parseInt(p[i]);
                }
                return vertex(Integer.parseInt(p[0]), Integer.parseInt(p[1]), in, outs);
        }
    }

    private String letter(int t) {
        int k = tracks.get(t).kind;
        return k == 12 ? "?" : "" + KINDS.get(k).letter;
    }

    int prints(int v) {
        if (!isVertex(v)) {
            return BAD;
        }
        Vertex o = vertices.get(v);
        paper = (o.in < 0 ? "" : letter(o.in)) + "->";
        for (int t : o.out()) {
            paper += letter(t);
        }
        return paper.length();
    }

    int paper(int i) {
        return i < 0 ? BAD : i < paper.length() ? paper.charAt(i) : NOT;
    }

    int list(int l, int n) {
        if (!in(l, 0, 2) || n > 24) {
            return BAD;
        }
        if (n < 0) {
            return BELOW;
        }
        lists[l] = new long[n];
        return 1;
    }

    int set(int l, int i, long v) {
        if (!in(l, 0, 2)) {
            return BAD;
        }
        if (lists[l] == null) {
            return NOTHING;
        }
        if (!in(i, 0, lists[l].length - 1)) {
            return BEYOND;
        }
        lists[l][i] = v;
        return 1;
    }

    long get(int l, int i) {
        return in(l, 0, 2) && lists[l] != null && in(i, 0, lists[l].length - 1) ? lists[l][i] : NO;
    }

    private List<Long> told(Vertex o) {
        List<Long> list = new ArrayList<>();
        for (int t : o.all()) {
            for (Fraction f : tracks.get(t).push(o.x, o.y, field)) {
                list.add(f.part(0));
                list.add(f.part(1));
            }
        }
        return list;
    }

    int into(int v, int l, int p) {
        if (!isVertex(v) || !in(l, 0, 2)) {
            return BAD;
        }
        if (lists[l] == null) {
            return NOTHING;
        }
        if (p < 0) {
            return BEYOND;
        }
        if (!balance(v)) {
            return NOT;
        }
        List<Long> told = told(vertices.get(v));
        int many = Math.max(0, Math.min(told.size(), lists[l].length - p));
        for (int i = 0; i < many; i++) {
            lists[l][p + i] = told.get(i);
        }
        return many;
    }

    int judge(int v, int l, int p) {
        if (!isVertex(v) || !in(l, 0, 2) || p < 0) {
            return BAD;
        }
        if (lists[l] == null) {
            return NOTHING;
        }
        if (!balance(v)) {
            return STATE;
        }
        List<Long> told = told(vertices.get(v));
        int many = Math.max(0, Math.min(told.size(), lists[l].length - p));
        for (int i = 0; i < many; i++) {
            if (lists[l][p + i] != told.get(i)) {
                return i / 4;
            }
        }
        return many == told.size() ? NOT : 100 + many / 4;
    }

    int undo() {
        if (changes.isEmpty()) {
            return NOT;
        }
        lay(changes.removeLast());
        return changes.size();
    }

    int image() {
        kept = all();
        return tracks.size();
    }

    int back() {
        if (kept == null) {
            return STATE;
        }
        lay(kept);
        changes.clear();
        return tracks.size();
    }
}
