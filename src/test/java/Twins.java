import java.util.ArrayList;
import java.util.List;
import java.util.function.Supplier;
import java.util.function.ToLongFunction;

/** Two objects made by the same calls: whatever one of them was asked more, they must stay alike. */
final class Twins {
    private Twins() {
    }

    /** A refused call (or one that only asks) leaves all as it was. */
    static void changeNothing(String call, Supplier<TrackChamber> begin, ToLongFunction<TrackChamber> asked,
        long want) {
        // Twice, as an object's answers are promised for 512 calls.
        for (int way = 0; way < 2; way++) {
            TrackChamber x = begin.get();
            TrackChamber y = begin.get();
            Check.due(call, asked.applyAsLong(x), want);
            same(call + ", then what is there", all(x), all(y));
            if (way == 0) {
                tapesAlike(call, x, y);
            } else {
                changesAlike(call, x, y);
            }
        }
    }

    private static void tapesAlike(String call, TrackChamber x, TrackChamber y) {
        Check.due(call + ", then reads", x.reads(), y.reads());
        same(call + ", then what is read", picture(x), picture(y));
    }

    private static void changesAlike(String call, TrackChamber x, TrackChamber y) {
        for (int i = 0; i < 9; i++) {
            Check.due(call + ", then undo " + i, x.undo(), y.undo());
            for (int what = 0; what < 5; what++) {
                Check.due(call + ", then undo " + i + ", count(" + what + ")", x.count(what), y.count(what));
            }
        }
        same(call + ", then what is undone", picture(x), picture(y));
        Check.due(call + ", then back", x.back(), y.back());
        same(call + ", then what is laid back", picture(x), picture(y));
    }

    private static void same(String words, List<Long> one, List<Long> other) {
        Check.due(words, one.equals(other) ? 1 : 0, 1);
    }

    /** FIELD, TRACKS with KINDS, VERTICES, how many CHANGES: at most 85 calls. */
    static List<Long> picture(TrackChamber x) {
        List<Long> told = new ArrayList<>();
        for (int what = 0; what < 5; what++) {
            told.add((long) x.count(what));
        }
        for (int track = 0; track < told.get(1); track++) {
            for (int what = 0; what < 8; what++) {
                told.add((long) x.trackOf(track, what));
            }
        }
        for (int vertex = 0; vertex < told.get(2); vertex++) {
            for (int what = 0; what < 4; what++) {
                told.add((long) x.vertexOf(vertex, what));
            }
        }
        return told;
    }

    /** The picture, how much THE TAPE has, THE PAPER, LISTS: at most 170 calls. */
    private static List<Long> all(TrackChamber x) {
        List<Long> told = picture(x);
        told.add((long) x.count(5));
        told.add((long) x.count(6));
        for (int i = 0; i < 7; i++) {
            told.add((long) x.paper(i));
        }
        for (int list = 0; list < 3; list++) {
            for (int i = 0; i < 24 && x.get(list, i) != TrackChamber.NO; i++) {
                told.add(x.get(list, i));
            }
            told.add(TrackChamber.NO);
        }
        return told;
    }
}
