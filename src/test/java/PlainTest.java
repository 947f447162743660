import java.util.Random;

/** Promises 1 to 41: runs of some 400 calls on the program and on Plain, made by a fixed seed. */
public final class PlainTest {
    /** A text that begins at the last of these calls still ends within an object's 512. */
    private static final int RUNS = 300, CALLS = 390;
    /** Circles and lines of these meet often: all are POINTS of one small square or of the circle around 0 by 5. */
    private static final int[] CIRCLE = {5, 0, 3, 4, 4, 3, 0, 5, -3, 4, -4, 3, -5, 0, -3, -4, -4, -3, 0, -5, 3, -4, 4, -3};

    private final Random random;
    private final TrackChamber x = new TrackChamber();
    private final Plain y = new Plain();
    private int spread;
    private int hubX, hubY;

    private PlainTest(long seed) {
        random = new Random(seed);
        spread = new int[] {2, 3, 6, 20}[random.nextInt(4)];
        hubX = number(-spread, spread);
        hubY = number(-spread, spread);
    }

    public static void main(String[] args) {
        int runs = args.length > 0 ? Integer.parseInt(args[0]) : RUNS;
        long from = args.length > 1 ? Long.parseLong(args[1]) : 1;
        for (int run = 0; run < runs && Check.wrong() == 0; run++) {
            PlainTest test = new PlainTest(from + run);
            int calls = run % 5 == 0 ? 0 : test.begin("seed " + (from + run) + ", begin: ");
            while (calls < CALLS && Check.wrong() == 0) {
                calls += test.step("seed " + (from + run) + ", call " + calls + ": ");
            }
        }
        Check.end();
    }

    private int number(int least, int most) {
        return least + random.nextInt(most - least + 1);
    }

    /** Mostly a number from least to most, now and then one beside them or far off. */
    private int near(int least, int most) {
        int way = random.nextInt(40);
        if (way == 0) {
            return least - 1;
        }
        if (way == 1) {
            return most + 1;
        }
        if (way == 2) {
            return new int[] {Integer.MIN_VALUE, Integer.MAX_VALUE, -100, 100, 1 << 16}[random.nextInt(5)];
        }
        return most < least ? least : number(least, most);
    }

    private int place() {
        return random.nextInt(12) == 0 ? near(-20, 20) : number(-spread, spread);
    }

    private int aTrack() {
        return near(0, y.count(1) - 1);
    }

    private int aVertex() {
        return near(0, y.count(2) - 1);
    }

    /** Some TRACKS through one POINT, KINDS that fit most of them, some VERTICES there. */
    private int begin(String where) {
        int calls = 0;
        for (int i = number(3, 8); i > 0; i--) {
            calls += track(where);
        }
        for (int t = 0; t < y.count(1); t++) {
            calls += random.nextInt(5) == 0 ? 0 : tellFitting(where, t);
        }
        for (int i = number(1, 4); i > 0; i--) {
            calls += vertex(where);
        }
        return calls;
    }

    private int step(String where) {
        switch (random.nextInt(10)) {
            case 0: case 1: return build(where);
            case 2: return tell(where);
            case 3: return curves(where);
            case 4: return balance(where);
            case 5: return laws(where);
            case 6: return energies(where);
            case 7: return random.nextInt(4) == 0 ? text(where) : papers(where);
            case 8: return rows(where);
            default: return all(where);
        }
    }

    private int due(String call, long got, long want) {
        Check.due(call, got, want);
        return 1;
    }

    private int build(String where) {
        int way = random.nextInt(14);
        if (way < 5) {
            return track(where);
        }
        if (way < 9) {
            return vertex(where);
        }
        if (way < 11) {
            return origin(where);
        }
        if (way < 13) {
            return due(where + "drop", x.drop(), y.drop());
        }
        return due(where + "wipe", x.wipe(), y.wipe());
    }

    private int track(String where) {
        int[] p = new int[6];
        for (int i = 0; i < 6; i += 2) {
            int one = 2 * random.nextInt(CIRCLE.length / 2);
            boolean round = spread == 6 && random.nextInt(4) > 0;
            p[i] = round ? CIRCLE[one] : place();
            p[i + 1] = round ? CIRCLE[one + 1] : place();
        }
        if (random.nextInt(4) > 0) {
            int at = 2 * random.nextInt(3);
            p[at] = hubX;
            p[at + 1] = hubY;
        }
        if (random.nextInt(7) == 0) {
            p[4] = 2 * p[0] - p[2];
            p[5] = 2 * p[1] - p[3];
        }
        int one = random.nextInt(8);
        if (random.nextInt(6) == 0 && one < y.count(1)) {
            // One more like another, the same way or back.
            boolean turned = random.nextBoolean();
            for (int i = 0; i < 6; i++) {
                p[i] = y.trackOf(one, turned ? 4 - i / 2 * 2 + i % 2 : i);
            }
        }
        return due(where + "track", x.track(p[0], p[1], p[2], p[3], p[4], p[5]),
            y.track(p[0], p[1], p[2], p[3], p[4], p[5]));
    }

    private int vertex(String where) {
        int px = hubX, py = hubY;
        if (random.nextInt(3) == 0) {
            int one = random.nextInt(8);
            px = y.trackOf(one, 0);
            py = y.trackOf(one, 1);
        }
        int there = Math.max(0, y.fits(px, py));
        int outs = random.nextInt(256) & (random.nextInt(8) == 0 ? -1 : there);
        while (Integer.bitCount(outs) > 3 && random.nextInt(20) > 0) {
            outs &= outs - 1;
        }
        int in = random.nextInt(3) == 0 ? -1 : near(0, 7);
        for (int i = 0; i < 6 && in >= 0 && ((there >> in & 1) == 0 || (outs >> in & 1) == 1); i++) {
            in = random.nextInt(8);
        }
        if (random.nextInt(30) == 0) {
            outs = random.nextInt();
        }
        return due(where + "vertex(" + px + ", " + py + ", " + in + ", " + outs + ")", x.vertex(px, py, in, outs),
            y.vertex(px, py, in, outs));
    }

    /** A VERTEX ahead of (or behind) one with none IN, along its NEUTRAL's PUSH or nearly so, and CAME there. */
    private int origin(String where) {
        int v = random.nextInt(4);
        if (y.vertexOf(v, 2) != 8 || y.lost(v, 0, 0) == TrackChamber.NO) {
            return 0;
        }
        long wayX = y.lost(v, 0, 0) * y.lost(v, 1, 1);
        long wayY = y.lost(v, 1, 0) * y.lost(v, 0, 1);
        long most = Math.max(1, Math.max(Math.abs(wayX), Math.abs(wayY)));
        int step = number(1, 20) * (random.nextInt(4) == 0 ? -1 : 1);
        int px = y.vertexOf(v, 0) - 20 + (int) Math.round(1.0 * step * wayX / most);
        int py = y.vertexOf(v, 1) - 20 + (int) Math.round(1.0 * step * wayY / most);
        int bx = place(), by = place(), cx = place(), cy = place();
        if (y.count(1) == 8) {
            due(where + "wipe", x.wipe(), y.wipe());
        }
        due(where + "track", x.track(px, py, bx, by, cx, cy), y.track(px, py, bx, by, cx, cy));
        int outs = y.count(1) == 0 ? 1 : 1 << y.count(1) - 1;
        due(where + "vertex", x.vertex(px, py, -1, outs), y.vertex(px, py, -1, outs));
        return 4 + due(where + "came", x.came(v), y.came(v));
    }

    private int tellFitting(String where, int t) {
        int turn = y.trackOf(t, 6) - 1;
        int k = random.nextInt(12);
        while (Plain.KINDS.get(k).charge() != turn) {
            k = (k + 1) % 12;
        }
        return due(where + "kind(" + t + ", " + k + ")", x.kind(t, k), y.kind(t, k));
    }

    private int aNeutral() {
        return new int[] {1, 3, 6, 9, 10}[random.nextInt(5)];
    }

    private int tell(String where) {
        int t = aTrack(), k = near(-1, 11), f = near(1, 9);
        if (random.nextInt(6) == 0) {
            return due(where + "field", x.field(f), y.field(f));
        }
        if (t >= 0 && t < y.count(1) && random.nextInt(4) > 0) {
            return tellFitting(where, t);
        }
        return due(where + "kind(" + t + ", " + k + ")", x.kind(t, k), y.kind(t, k));
    }

    private int curves(String where) {
        int t = aTrack(), o = aTrack(), px = place(), py = place(), axis = near(0, 1), part = near(0, 1);
        if (random.nextInt(2) == 0) {
            px = hubX;
            py = hubY;
        }
        int k = random.nextInt(3) == 0 ? -1 : near(0, 4);
        switch (random.nextInt(12)) {
            case 0: return due(where + "bend", x.bend(t), y.bend(t));
            case 1: case 2: return due(where + "centre", x.centre(t, axis, part), y.centre(t, axis, part));
            case 3: case 4: return due(where + "on", x.on(t, px, py), y.on(t, px, py));
            case 5: return due(where + "meets", x.meets(t, o, k), y.meets(t, o, k));
            case 6: return random.nextInt(8) > 0 ? 0 : due(where + "through", x.through(), y.through());
            case 7: case 8: return due(where + "fits", x.fits(px, py), y.fits(px, py));
            default: return due(where + "push", x.push(t, px, py, axis, part), y.push(t, px, py, axis, part));
        }
    }

    private int balance(String where) {
        int v = aVertex(), what = near(0, 2), part = near(0, 1);
        switch (random.nextInt(6)) {
            case 0: return due(where + "even", x.even(v), y.even(v));
            case 1: return due(where + "came", x.came(v), y.came(v));
            case 2: return due(where + "spoils", x.spoils(v), y.spoils(v));
            default: return due(where + "lost(" + v + ", " + what + ", " + part + ")", x.lost(v, what, part),
                y.lost(v, what, part));
        }
    }

    private int laws(String where) {
        int v = aVertex(), law = near(0, 2), asked = near(0, 1);
        int neutral = random.nextInt(8) == 0 ? near(0, 11) : aNeutral();
        int lost = random.nextInt(8) == 0 ? near(-1, 11) : random.nextBoolean() ? -1 : aNeutral();
        int k = random.nextInt(3) == 0 ? -1 : near(0, 4);
        switch (random.nextInt(8)) {
            case 0: return due(where + "rest", x.rest(law), y.rest(law));
            case 1: case 2: case 3:
                return due(where + "holds", x.holds(v, law, neutral, lost), y.holds(v, law, neutral, lost));
            case 4: return due(where + "calls", x.calls(v, law, asked), y.calls(v, law, asked));
            default: return due(where + "names", x.names(v, law, asked, k), y.names(v, law, asked, k));
        }
    }

    private int energies(String where) {
        int v = aVertex(), what = near(0, 2), t = aTrack(), k = near(0, 11);
        switch (random.nextInt(4)) {
            case 0: return due(where + "energy", x.energy(t, hubX, hubY, k), y.energy(t, hubX, hubY, k));
            case 1: return due(where + "evens", x.evens(v), y.evens(v));
            default: return due(where + "heat(" + v + ", " + what + ")", x.heat(v, what), y.heat(v, what));
        }
    }

    private String aNumber() {
        int way = random.nextInt(30);
        return way == 0 ? "-" : way == 1 ? "123" : way == 2 ? "0" + random.nextInt(10) : "" + place();
    }

    private String aStatement() {
        int way = random.nextInt(12);
        if (way < 3) {
            return "f" + random.nextInt(10);
        }
        if (way < 6) {
            return "t" + hubX + "," + hubY + "," + aNumber() + "," + aNumber() + "," + aNumber() + "," + aNumber();
        }
        if (way < 9) {
            int t = random.nextInt(Math.max(1, y.count(1)));
            return "k" + t + "pnevabckmols".charAt(random.nextInt(12));
        }
        StringBuilder s = new StringBuilder("v" + hubX + "," + hubY);
        if (random.nextBoolean()) {
            s.append('<').append(random.nextInt(Math.max(1, y.count(1))));
        }
        for (int i = random.nextInt(12) == 0 ? -1 : random.nextInt(3); i >= 0; i--) {
            s.append('>').append(random.nextInt(Math.max(1, y.count(1))));
        }
        return s.toString();
    }

    private int text(String where) {
        StringBuilder s = new StringBuilder(aStatement());
        for (int i = random.nextInt(4); i > 0; i--) {
            s.append(';').append(aStatement());
        }
        if (random.nextInt(4) == 0) {
            int at = random.nextInt(s.length());
            String signs = "ftkv0123456789-,;<>pb x?";
            char sign = signs.charAt(random.nextInt(signs.length()));
            switch (random.nextInt(4)) {
                case 0: s.setCharAt(at, sign); break;
                case 1: s.insert(at, sign); break;
                case 2: s.deleteCharAt(at); break;
                default: s.setLength(at); break;
            }
        }
        for (int i = 0; i < s.length(); i++) {
            due(where + "feed", x.feed(s.charAt(i)), y.feed(s.charAt(i)));
        }
        return s.length() + due(where + "reads of " + s, x.reads(), y.reads());
    }

    private int papers(String where) {
        int v = aVertex(), i = near(0, 6), letter = near(1, 127);
        switch (random.nextInt(12)) {
            case 0: return due(where + "feed", x.feed(letter), y.feed(letter));
            case 1: return due(where + "reads", x.reads(), y.reads());
            case 2: case 3: case 4: return due(where + "prints", x.prints(v), y.prints(v));
            default: return due(where + "paper", x.paper(i), y.paper(i));
        }
    }

    private int rows(String where) {
        int v = aVertex(), l = near(0, 2), p = near(0, 20), n = near(0, 24);
        long value = random.nextInt(4) == 0 ? y.get(l, p) : random.nextInt(3);
        switch (random.nextInt(9)) {
            case 0: return due(where + "list", x.list(l, n), y.list(l, n));
            case 1: return due(where + "set", x.set(l, p, value), y.set(l, p, value));
            case 2: case 3: return due(where + "get", x.get(l, p), y.get(l, p));
            case 4: return due(where + "into", x.into(v, l, p), y.into(v, l, p));
            case 5: return due(where + "judge", x.judge(v, l, p), y.judge(v, l, p));
            default:
                p = number(0, 12);
                due(where + "into", x.into(v, l, p), y.into(v, l, p));
                if (random.nextInt(2) == 0) {
                    int at = number(0, 24);
                    due(where + "set", x.set(l, at, 7), y.set(l, at, 7));
                }
                return 2 + due(where + "judge", x.judge(v, l, p), y.judge(v, l, p));
        }
    }

    private int all(String where) {
        int way = random.nextInt(12);
        if (way < 3) {
            return due(where + "undo", x.undo(), y.undo());
        }
        if (way < 5) {
            return way == 3 ? due(where + "image", x.image(), y.image())
                : random.nextInt(4) > 0 ? 0 : due(where + "back", x.back(), y.back());
        }
        int t = aTrack(), v = aVertex(), what = near(0, 7), k = near(0, 11);
        due(where + "trackOf", x.trackOf(t, what), y.trackOf(t, what));
        due(where + "vertexOf", x.vertexOf(v, what), y.vertexOf(v, what));
        due(where + "numbers", x.numbers(k, what), y.numbers(k, what));
        return 3 + due(where + "count(" + what + ")", x.count(what), y.count(what));
    }
}
