import java.util.function.Supplier;
import java.util.function.ToLongFunction;

/** Boundary cases of "Answers": which of several comes first, what a refused call changes, numbers of all sizes. */
final class AnswersEdges {
    private static final String FIRST = "Answers, of several the first as here (and as the call's words name them):";
    private static final String NOTHING_CHANGES = "What is answered so changes nothing;";
    private static final long NO = TrackChamber.NO;

    private AnswersEdges() {
    }

    static void run() {
        ofWhichFirst();
        Edge.of(2, NOTHING_CHANGES, AnswersEdges::fieldRefused);
        Edge.of(3, NOTHING_CHANGES, AnswersEdges::trackRefused);
        Edge.of(4, NOTHING_CHANGES, AnswersEdges::kindRefused);
        Edge.of(5, NOTHING_CHANGES, AnswersEdges::vertexRefused);
        Edge.of(6, NOTHING_CHANGES, AnswersEdges::dropRefused);
        Edge.of(7, NOTHING_CHANGES, AnswersEdges::wipeRefused);
        Edge.of(25, NOTHING_CHANGES, AnswersEdges::callsRefused);
        Edge.of(30, NOTHING_CHANGES, AnswersEdges::feedRefused);
        Edge.of(32, NOTHING_CHANGES, AnswersEdges::printsRefused);
        Edge.of(34, NOTHING_CHANGES, AnswersEdges::listRefused);
        Edge.of(35, NOTHING_CHANGES, AnswersEdges::setRefused);
        Edge.of(37, NOTHING_CHANGES, AnswersEdges::intoRefused);
        Edge.of(39, NOTHING_CHANGES, AnswersEdges::undoRefused);
        Edge.of(41, NOTHING_CHANGES, AnswersEdges::backRefused);
        Edge.of(1, "BAD (-1) no such number, or it is not as told;", Calls::eachNumberOtherwise);
        Edge.of(1, "NO (Long.MIN_VALUE) instead of all of these.", Calls::allNumbersOtherwise);
        Edge.of(1, "An object is used for at most 512 calls after it has been made;", AnswersEdges::lastCalls);
    }

    private static void ofWhichFirst() {
        Edge.of(3, FIRST, AnswersEdges::trackFirst);
        Edge.of(4, FIRST, AnswersEdges::kindFirst);
        Edge.of(5, FIRST, AnswersEdges::vertexFirst);
        Edge.of(15, FIRST, AnswersEdges::meetsFirst);
        Edge.of(21, FIRST, AnswersEdges::cameFirst);
        Edge.of(22, FIRST, AnswersEdges::spoilsFirst);
        Edge.of(23, FIRST, AnswersEdges::holdsFirst);
        Edge.of(24, FIRST, AnswersEdges::namesFirst);
        Edge.of(25, FIRST, AnswersEdges::callsFirst);
        Edge.of(29, FIRST, AnswersEdges::evensFirst);
        Edge.of(30, FIRST, AnswersEdges::feedFirst);
        Edge.of(33, FIRST, AnswersEdges::paperFirst);
        Edge.of(34, FIRST, AnswersEdges::listFirst);
        Edge.of(35, FIRST, AnswersEdges::setFirst);
        Edge.of(37, FIRST, AnswersEdges::intoFirst);
        Edge.of(38, FIRST, AnswersEdges::judgeFirst);
    }

    private static void trackFirst() {
        TrackChamber x = Chambers.eight();
        Check.due("BAD, STATE and FULL", x.track(21, 0, 21, 0, 1, 1), -1);
        Check.due("BAD by the last number, STATE and FULL", x.track(0, 0, 0, 0, 1, -21), -1);
        Check.due("BAD and FULL", x.track(0, 0, 21, 0, 1, 1), -1);
        Check.due("STATE and FULL", x.track(0, 0, 0, 0, 1, 1), -5);
        Check.due("FULL", x.track(0, 0, 0, 1, 1, 1), -3);
        x.wipe();
        Check.due("BAD and STATE", x.track(21, 0, 21, 0, 1, 1), -1);
    }

    private static void kindFirst() {
        TrackChamber x = Chambers.eight();
        x.wipe();
        Check.due("no such TRACK, whatever the KIND", x.kind(7, 0), -1);
        Check.due("no such KIND, whatever the TURN", x.kind(0, 12), -1);
        Check.due("no such TRACK nor KIND", x.kind(-1, 12), -1);
        Check.due("STATE", x.kind(0, 11), -5);
    }

    private static void vertexFirst() {
        TrackChamber x = Chambers.eight();
        Check.due("BAD by x, not ON it", x.vertex(21, 1, -1, 1), -1);
        Check.due("BAD by outs, the one IN not ON it", x.vertex(4, 4, 5, 0), -1);
        Check.due("BAD by in, those OUT not ON it", x.vertex(4, 4, 8, 32), -1);
        Check.due("BAD by in OUT, not ON it", x.vertex(4, 4, 5, 32), -1);
        Check.due("BAD by four OUT, not ON it", x.vertex(4, 4, 0, 2 + 4 + 8 + 32), -1);
        for (int i = 0; i < 4; i++) {
            x.vertex(0, 0, -1, 1);
        }
        Check.due("BAD, STATE and FULL", x.vertex(4, 4, 5, 0), -1);
        Check.due("BAD and FULL", x.vertex(0, 0, -1, 256), -1);
        Check.due("STATE and FULL", x.vertex(4, 4, 5, 1), -5);
        Check.due("FULL", x.vertex(4, 4, 0, 2), -3);
    }

    private static void meetsFirst() {
        TrackChamber x = Chambers.eight();
        Check.due("the same and no k-th", x.meets(0, 0, 99), -1);
        Check.due("no such TRACK and no k-th", x.meets(0, 8, 99), -1);
        Check.due("NOT", x.meets(0, 5, 99), -2);
    }

    private static void cameFirst() {
        TrackChamber x = Chambers.eight();
        x.vertex(0, 0, 5, 1);
        x.vertex(0, 0, 0, 32);
        x.vertex(0, 0, -1, 32);
        Check.due("STATE and NOT: the one IN is STRAIGHT", x.came(0), -5);
        Check.due("STATE and NOT: the one OUT is STRAIGHT", x.came(1), -5);
        Check.due("NOT", x.came(2), -2);
        Check.due("BAD", x.came(3), -1);
    }

    private static void spoilsFirst() {
        TrackChamber x = Chambers.eight();
        x.vertex(0, 0, -1, 32);
        Check.due("NOT", x.spoils(0), -2);
        Check.due("BAD", x.spoils(1), -1);
        Check.due("even(): NOT", x.even(0), -2);
        Check.due("even(): BAD", x.even(1), -1);
    }

    private static void holdsFirst() {
        TrackChamber x = Chambers.eight();
        x.vertex(0, 0, -1, 1 + 8);
        x.vertex(0, 0, 0, 2);
        Check.due("BAD by vertex, not told", x.holds(2, 0, 1, -1), -1);
        Check.due("BAD by law, not told", x.holds(0, 3, 1, -1), -1);
        Check.due("BAD by neutral, not told", x.holds(0, 0, 0, -1), -1);
        Check.due("BAD by lost, not told", x.holds(0, 0, 1, 0), -1);
        Check.due("BAD by lost, not told, one IN", x.holds(1, 0, 1, 12), -1);
        Check.due("neutral does not matter, not told", x.holds(1, 0, 0, -1), -5);
        Check.due("STATE", x.holds(0, 0, 1, -1), -5);
    }

    private static void namesFirst() {
        TrackChamber x = Chambers.eight();
        x.vertex(0, 0, 0, 2 + 4 + 8);
        x.vertex(0, 0, 0, 8);
        Check.due("BAD by vertex and STATE", x.names(-1, 0, 0, 0), -1);
        Check.due("BAD by law and STATE", x.names(0, 3, 0, 0), -1);
        Check.due("BAD by lost and STATE", x.names(0, 0, 2, 0), -1);
        Check.due("BAD by k and STATE", x.names(0, 0, 0, -2), -1);
        Check.due("STATE and no k-th", x.names(0, 0, 0, 99), -5);
        Check.due("BAD by k and no way", x.names(1, 0, 0, -2), -1);
        Check.due("NOT", x.names(1, 0, 0, 0), -2);
    }

    private static void callsFirst() {
        TrackChamber x = Chambers.eight();
        // CHARGE 1 IN, 3 OUT and more: four not told and no way.
        x.vertex(0, 0, 3, 1 + 2 + 4);
        x.vertex(0, 0, 3, 1 + 2);
        Check.due("BAD by vertex and STATE", x.calls(2, 0, 0), -1);
        Check.due("BAD by law and STATE", x.calls(0, 3, 0), -1);
        Check.due("BAD by lost and STATE", x.calls(0, 0, 2), -1);
        Check.due("STATE and NOT", x.calls(0, 0, 0), -5);
        Check.due("BAD by law and NOT", x.calls(1, -1, 0), -1);
        Check.due("NOT", x.calls(1, 0, 0), -2);
    }

    private static void evensFirst() {
        TrackChamber x = Chambers.eight();
        x.vertex(0, 0, -1, 32);
        Check.due("STATE by three reasons", x.evens(0), -5);
        Check.due("BAD", x.evens(1), -1);
    }

    private static TrackChamber fullTape() {
        TrackChamber x = new TrackChamber();
        Check.feed(x, "f2;".repeat(40));
        return x;
    }

    private static void feedFirst() {
        TrackChamber x = fullTape();
        Check.due("BAD and FULL: 0", x.feed(0), -1);
        Check.due("BAD and FULL: 128", x.feed(128), -1);
        Check.due("FULL", x.feed(127), -3);
    }

    private static void paperFirst() {
        TrackChamber x = new TrackChamber();
        Check.due("BAD and NOT", x.paper(-1), -1);
        Check.due("NOT", x.paper(0), -2);
    }

    private static void listFirst() {
        TrackChamber x = new TrackChamber();
        Check.due("BAD by list and BELOW", x.list(3, -1), -1);
        Check.due("BAD by list -1 and BELOW", x.list(-1, Integer.MIN_VALUE), -1);
        Check.due("BAD by list and by n", x.list(3, 25), -1);
        Check.due("BELOW", x.list(2, -1), -14);
    }

    private static void setFirst() {
        TrackChamber x = new TrackChamber();
        x.list(1, 2);
        Check.due("BAD and BEYOND", x.set(3, -1, 0), -1);
        Check.due("NOTHING and BEYOND", x.set(0, -1, 0), -11);
        Check.due("NOTHING and BEYOND, above", x.set(0, 24, 0), -11);
        Check.due("BEYOND", x.set(1, 2, 0), -13);
    }

    private static TrackChamber straight() {
        TrackChamber x = Chambers.eight();
        x.vertex(0, 0, -1, 32);
        x.list(1, 4);
        return x;
    }

    private static void intoFirst() {
        TrackChamber x = straight();
        Check.due("BAD by vertex, NOTHING and BEYOND", x.into(1, 0, -1), -1);
        Check.due("BAD by list and BEYOND", x.into(0, 3, -1), -1);
        Check.due("NOTHING, BEYOND and NOT", x.into(0, 0, -1), -11);
        Check.due("NOTHING and NOT", x.into(0, 0, 0), -11);
        Check.due("BEYOND and NOT", x.into(0, 1, -1), -13);
        Check.due("NOT", x.into(0, 1, 0), -2);
        Check.due("NOT behind its end", x.into(0, 1, 4), -2);
    }

    private static void judgeFirst() {
        TrackChamber x = straight();
        Check.due("BAD by vertex and NOTHING", x.judge(1, 0, 0), -1);
        Check.due("BAD by p, NOTHING and STATE", x.judge(0, 0, -1), -1);
        Check.due("BAD by p and STATE", x.judge(0, 1, -1), -1);
        Check.due("NOTHING and STATE", x.judge(0, 0, 0), -11);
        Check.due("STATE", x.judge(0, 1, 0), -5);
        Check.due("STATE behind its end", x.judge(0, 1, 4), -5);
    }

    private static void refused(String call, Supplier<TrackChamber> begin, ToLongFunction<TrackChamber> asked,
        long want) {
        Twins.changeNothing(call, begin, asked, want);
    }

    private static void fieldRefused() {
        refused("field(0)", Chambers::full, x -> x.field(0), -1);
        refused("field(10)", Chambers::full, x -> x.field(10), -1);
        refused("field(0) on a new object", TrackChamber::new, x -> x.field(0), -1);
    }

    private static void trackRefused() {
        Supplier<TrackChamber> seven = () -> {
            TrackChamber x = Chambers.full();
            x.wipe();
            return x;
        };
        refused("track() beyond the grid", seven, x -> x.track(0, 0, 1, 1, 2, 21), -1);
        refused("track() of two alike", seven, x -> x.track(0, 0, 1, 1, 0, 0), -5);
        refused("a ninth track()", Chambers::full, x -> x.track(0, 0, 1, 1, 0, 5), -3);
    }

    private static void kindRefused() {
        refused("kind() of no TRACK", Chambers::full, x -> x.kind(8, 1), -1);
        refused("kind() of no KIND", Chambers::full, x -> x.kind(0, 12), -1);
        refused("kind() against TURN", Chambers::full, x -> x.kind(0, 1), -5);
        refused("kind() against TURN, none told", Chambers::full, x -> x.kind(1, 2), -5);
    }

    private static void vertexRefused() {
        Supplier<TrackChamber> three = () -> {
            TrackChamber x = Chambers.full();
            x.drop();
            return x;
        };
        refused("vertex() beyond the grid", three, x -> x.vertex(0, 21, -1, 1), -1);
        refused("vertex() of none OUT", three, x -> x.vertex(0, 0, -1, 0), -1);
        refused("vertex() of one not ON it", three, x -> x.vertex(4, 4, 0, 32), -5);
        refused("a fifth vertex()", Chambers::full, x -> x.vertex(0, 0, -1, 1), -3);
    }

    private static void dropRefused() {
        refused("drop() of none", Chambers::eight, TrackChamber::drop, -5);
        refused("drop() on a new object", TrackChamber::new, TrackChamber::drop, -5);
    }

    private static void wipeRefused() {
        refused("wipe() of none", TrackChamber::new, TrackChamber::wipe, -5);
        refused("wipe() of a VERTEX's", AnswersEdges::lastIsIn, TrackChamber::wipe, -5);
    }

    private static TrackChamber lastIsIn() {
        TrackChamber x = Chambers.eight();
        x.vertex(0, 0, 7, 1);
        x.vertex(0, 0, -1, 2);
        return x;
    }

    private static void callsRefused() {
        refused("calls() of no VERTEX", Chambers::full, x -> x.calls(4, 0, 0), -1);
        refused("calls() by no LAW", Chambers::full, x -> x.calls(0, 3, 0), -1);
        refused("calls() lost 2", Chambers::full, x -> x.calls(0, 0, 2), -1);
        refused("calls() of four", AnswersEdges::fourNotTold, x -> x.calls(0, 0, 0), -5);
        refused("calls(), no way", AnswersEdges::fourNotTold, x -> x.calls(1, 0, 1), -2);
        refused("calls(), no way, nobody not told", Chambers::full, x -> x.calls(2, 2, 0), -2);
    }

    private static TrackChamber fourNotTold() {
        TrackChamber x = Chambers.eight();
        x.vertex(0, 0, 0, 2 + 4 + 8);
        x.vertex(0, 0, 0, 8);
        return x;
    }

    private static void feedRefused() {
        refused("feed(0)", Chambers::full, x -> x.feed(0), -1);
        refused("feed(128)", Chambers::full, x -> x.feed(128), -1);
        refused("feed() of the 121st", AnswersEdges::fullTape, x -> x.feed('f'), -3);
    }

    private static void printsRefused() {
        refused("prints(4)", Chambers::full, x -> x.prints(4), -1);
        refused("prints(-1)", Chambers::full, x -> x.prints(-1), -1);
    }

    private static void listRefused() {
        refused("list(3, 1)", Chambers::full, x -> x.list(3, 1), -1);
        refused("list(0, 25)", Chambers::full, x -> x.list(0, 25), -1);
        refused("list(2, 25)", Chambers::full, x -> x.list(2, 25), -1);
        refused("list(0, -1)", Chambers::full, x -> x.list(0, -1), -14);
    }

    private static void setRefused() {
        refused("set(3, 0, 1)", Chambers::full, x -> x.set(3, 0, 1), -1);
        refused("set(2, 0, 1)", Chambers::full, x -> x.set(2, 0, 1), -11);
        refused("set(1, 5, 1)", Chambers::full, x -> x.set(1, 5, 1), -13);
        refused("set(0, -1, 1)", Chambers::full, x -> x.set(0, -1, 1), -13);
    }

    private static void intoRefused() {
        refused("into() of no VERTEX", Chambers::full, x -> x.into(4, 0, 0), -1);
        refused("into() of no LIST", Chambers::full, x -> x.into(0, 3, 0), -1);
        refused("into() of nothing", Chambers::full, x -> x.into(0, 2, 0), -11);
        refused("into() below", Chambers::full, x -> x.into(0, 0, -1), -13);
        refused("into() without BALANCE", Chambers::full, x -> x.into(2, 0, 0), -2);
        refused("into() at the end", Chambers::full, x -> x.into(0, 0, 24), 0);
    }

    private static void undoRefused() {
        refused("undo() on a new object", TrackChamber::new, TrackChamber::undo, -2);
        Supplier<TrackChamber> read = () -> {
            TrackChamber x = Chambers.full();
            x.reads();
            return x;
        };
        refused("undo() behind a reads()", read, TrackChamber::undo, -2);
    }

    private static void backRefused() {
        refused("back() on a new object", TrackChamber::new, TrackChamber::back, -5);
        refused("back() without an IMAGE", AnswersEdges::lastIsIn, TrackChamber::back, -5);
        refused("get() of no place", Chambers::full, x -> x.get(1, 5), NO);
    }

    private static void lastCalls() {
        TrackChamber x = new TrackChamber();
        for (int i = 1; i <= 510; i++) {
            Check.due("call " + i, x.field(i % 9 + 1), i == 1 ? 3 : (i - 1) % 9 + 1);
        }
        Check.due("call 511", x.undo(), 7);
        Check.due("call 512", x.count(0), 509 % 9 + 1);
        TrackChamber y = new TrackChamber();
        for (int i = 1; i <= 126; i++) {
            y.feed('f');
            y.feed('1' + i % 9);
            y.feed(';');
            Check.due("reads() of a text that ends too early", y.reads(), -1003);
        }
        for (int i = 505; i <= 510; i++) {
            y.image();
        }
        Check.due("call 511 of another", y.feed('f'), 1);
        Check.due("call 512 of another", y.reads(), -1001);
    }
}
