/** Promises 30 to 33. */
public final class TextsTest {
    public static void main(String[] args) {
        feed();
        writtenWrong();
        refused();
        numbersOfText();
        pictures();
        faultsLeaveAll();
        prints();
        Check.end();
    }

    private static void feed() {
        TrackChamber x = new TrackChamber();
        Check.due("feed(0)", x.feed(0), -1);
        Check.due("feed(128)", x.feed(128), -1);
        Check.due("feed(-1)", x.feed(-1), -1);
        Check.due("feed(256 + 'f')", x.feed(256 + 'f'), -1);
        Check.due("feed(1)", x.feed(1), 1);
        Check.due("feed(127)", x.feed(127), 2);
        for (int i = 3; i <= 120; i++) {
            Check.due("feed " + i, x.feed('f'), i);
        }
        Check.due("feed 121", x.feed('f'), -3);
        Check.due("feed BAD ahead of FULL", x.feed(128), -1);
        Check.due("count(5)", x.count(5), 120);
        Check.due("reads", x.reads(), -1000);
        Check.due("reads empties", x.count(5), 0);
        Check.due("feed again", x.feed('f'), 1);
        // THE TAPE full to its last byte, and one byte less.
        StringBuilder text = new StringBuilder();
        for (int i = 0; i < 39; i++) {
            text.append("f1;");
        }
        x.reads();
        Check.due("reads 120 bytes", Check.read(x, text + "k0p"), -2117);
        Check.due("reads 119 bytes", Check.read(x, text + "f2"), 40);
        Check.due("reads, FIELD", x.count(0), 2);
    }

    private static void fault(String text, int place) {
        TrackChamber x = chamber();
        Check.due("reads \"" + text + "\"", Check.read(x, text), -1000 - place);
        Check.due("TAPE behind \"" + text + "\"", x.count(5), 0);
        Check.due("TRACKS behind \"" + text + "\"", x.count(1), 3);
    }

    /** Three TRACKS through (0, 0): TURN 1, TURN -1, STRAIGHT. */
    private static TrackChamber chamber() {
        TrackChamber x = new TrackChamber();
        x.track(0, 0, 4, 0, 4, 4);
        x.track(0, 0, 0, 4, 4, 4);
        x.track(0, 0, 1, 0, 2, 0);
        return x;
    }

    private static void writtenWrong() {
        fault("", 0);
        fault("x", 0);
        fault(";", 0);
        fault("f", 1);
        fault("fx", 1);
        fault("f-1", 1);
        fault("f12", 2);
        fault("f1;", 3);
        fault("f1;;f2", 3);
        fault("f1 ;f2", 2);
        fault("f1;F2", 3);
        fault("t", 1);
        fault("t1,2,3,4,5", 10);
        fault("t1,2,3,4,5,", 11);
        fault("t1,2,3,4,5,6,7", 12);
        fault("t1,2,3,4,5,-", 12);
        fault("t1,2,3,4,5,--6", 12);
        fault("t1,2,3,4,5,+6", 11);
        fault("t1,2,3,4,5,678", 13);
        fault("t-123", 4);
        fault("t12-3", 3);
        fault("t,", 1);
        fault("t1;", 2);
        fault("k", 1);
        fault("kp", 1);
        fault("k0", 2);
        fault("k00", 2);
        fault("k0x", 2);
        fault("k0?", 2);
        fault("k0pp", 3);
        fault("k-1p", 1);
        fault("v", 1);
        fault("v1", 2);
        fault("v1,2", 4);
        fault("v1,2;", 4);
        fault("v1,234>0", 5);
        fault("v1,2,3", 4);
        fault("v1,2<", 5);
        fault("v1,2<>", 5);
        fault("v1,2<0", 6);
        fault("v1,2<01>1", 6);
        fault("v1,2<0<1>2", 6);
        fault("v1,2>", 5);
        fault("v1,2>0>", 7);
        fault("v1,2>0<1", 6);
        fault("v1,2>0>1>2>0", 10);
        fault("v1,2>01", 6);
        fault("v1,2>0>1>23", 10);
        // A fault of writing comes ahead of a refused STATEMENT, wherever it stands.
        fault("f0;k9p;f", 8);
        fault("k1q;f0", 2);
    }

    private static void refusedAt(String text, int place) {
        TrackChamber x = chamber();
        Check.due("reads \"" + text + "\"", Check.read(x, text), -2000 - place);
        Check.due("FIELD behind \"" + text + "\"", x.count(0), 3);
        Check.due("TRACKS behind \"" + text + "\"", x.count(1), 3);
        Check.due("VERTICES behind \"" + text + "\"", x.count(2), 0);
        Check.due("told behind \"" + text + "\"", x.count(3), 0);
        Check.due("CHANGES behind \"" + text + "\"", x.count(4), 3);
        Check.due("TAPE behind \"" + text + "\"", x.count(5), 0);
    }

    private static void refused() {
        refusedAt("f0", 0);
        refusedAt("f7;f0", 3);
        refusedAt("f7;f0;f0", 3);
        refusedAt("t21,0,1,1,2,2", 0);
        refusedAt("t-21,0,1,1,2,2", 0);
        refusedAt("t1,1,1,1,2,2", 0);
        refusedAt("k0b", 0);
        refusedAt("k0n", 0);
        refusedAt("k2p", 0);
        refusedAt("k3p", 0);
        refusedAt("k9p", 0);
        refusedAt("f5;k0p;k1e;k2p", 11);
        refusedAt("v0,0>3", 0);
        refusedAt("v0,0>8", 0);
        refusedAt("v0,0>9", 0);
        refusedAt("v0,0<9>0", 0);
        refusedAt("v0,0<3>0", 0);
        refusedAt("v0,0<0>0", 0);
        refusedAt("v0,0<0>1>0", 0);
        refusedAt("v4,4>2", 0);
        refusedAt("v0,99>2", 0);
        refusedAt("v0,0>0;v0,0>0;v0,0>0;v0,0>0;v0,0>0", 28);
        refusedAt("k3p;t0,0,4,0,4,4", 0);
        String track = "t0,0,1,0,0,1;";
        refusedAt(track + track + track + track + track + "t0,0,1,0,0,1", 65);
    }

    private static void numbersOfText() {
        TrackChamber x = new TrackChamber();
        Check.due("reads numbers", Check.read(x, "t-0,00,-20,20,07,-3"), 1);
        int[] due = {0, 0, -20, 20, 7, -3};
        for (int what = 0; what < 6; what++) {
            Check.due("number " + what, x.trackOf(0, what), due[what]);
        }
    }

    private static void pictures() {
        TrackChamber x = chamber();
        Check.due("reads", Check.read(x, "t0,0,1,3,0,6;k3p;k0a;k1e;k2v;v0,0<3>0>1>2;v4,0>1;f9"), 8);
        Check.due("FIELD", x.count(0), 9);
        Check.due("TRACKS", x.count(1), 4);
        Check.due("VERTICES", x.count(2), 2);
        Check.due("told", x.count(3), 4);
        Check.due("CHANGES", x.count(4), 0);
        Check.due("undo", x.undo(), -2);
        Check.due("KIND of 3", x.trackOf(3, 7), 0);
        Check.due("IN", x.vertexOf(0, 2), 3);
        Check.due("OUT", x.vertexOf(0, 3), 7);
        Check.due("IN, none", x.vertexOf(1, 2), 8);
        Check.due("x", x.vertexOf(1, 0), 24);
        Check.due("reads twice told", Check.read(x, "v0,0>1>1>1"), 1);
        Check.due("OUT once", x.vertexOf(2, 3), 2);
        Check.due("reads, OUT in any order", Check.read(x, "v0,0>2>0"), 1);
        Check.due("OUT bits", x.vertexOf(3, 3), 5);
        String letters = "pnevabckmols";
        int[] owner = {0, 2, 1, 2, 0, 1, 2, 0, 1, 2, 2, 1};
        for (int kind = 0; kind < 12; kind++) {
            Check.due("reads k", Check.read(x, "k" + owner[kind] + letters.charAt(kind)), 1);
            Check.due("KIND " + letters.charAt(kind), x.trackOf(owner[kind], 7), kind);
        }
        x.field(4);
        Check.due("a STATEMENT that leaves all as it was", Check.read(x, "f4"), 1);
        Check.due("no CHANGES behind it", x.count(4), 0);
    }

    private static void faultsLeaveAll() {
        TrackChamber x = chamber();
        x.field(8);
        for (int i = 0; i < 5; i++) {
            x.field(i + 1);
        }
        Check.due("8 CHANGES", x.count(4), 8);
        Check.due("fault", Check.read(x, "f9;f"), -1004);
        Check.due("refused", Check.read(x, "f9;f0"), -2003);
        Check.due("8 CHANGES stay", x.count(4), 8);
        for (int i = 4; i >= 1; i--) {
            x.undo();
            Check.due("undone to", x.count(0), i);
        }
        x.undo();
        Check.due("undone to 8", x.count(0), 8);
        x.undo();
        Check.due("undone to 3", x.count(0), 3);
        Check.due("undo the third TRACK", x.undo(), 1);
        Check.due("undo the second TRACK", x.undo(), 0);
        Check.due("undo no more", x.undo(), -2);
        Check.due("the first TRACK is left", x.count(1), 1);
    }

    private static void printed(TrackChamber x, int vertex, String want) {
        Check.due("prints(" + vertex + ")", x.prints(vertex), want.length());
        String got = Check.paper(x);
        if (!got.equals(want)) {
            Check.fault("THE PAPER is " + got + ", due is " + want);
        }
        Check.due("paper behind its end", x.paper(want.length()), -2);
    }

    private static void prints() {
        TrackChamber x = chamber();
        Check.due("prints, none", x.prints(0), -1);
        Check.due("paper(-1)", x.paper(-1), -1);
        Check.due("paper(0), nothing yet", x.paper(0), -2);
        Check.read(x, "t0,0,4,0,4,4;v0,0<1>0>2>3;v0,0>1>0;v0,0<0>3");
        printed(x, 0, "?->???");
        printed(x, 1, "->??");
        Check.read(x, "k1s;k2n;k3a");
        printed(x, 0, "s->?na");
        printed(x, 1, "->?s");
        printed(x, 2, "?->a");
        Check.due("prints(3)", x.prints(3), -1);
        Check.due("prints(-1)", x.prints(-1), -1);
        Check.due("THE PAPER stays", x.count(6), 4);
        x.drop();
        x.undo();
        x.image();
        x.back();
        Check.read(x, "k1b");
        Check.due("THE PAPER stays still", x.paper(3), 'a');
        Check.due("paper greatest", x.paper(Integer.MAX_VALUE), -2);
        Check.due("paper least", x.paper(Integer.MIN_VALUE), -1);
        Check.read(x, "k0p;k2c");
        printed(x, 0, "b->pca");
        String letters = "pnevabckmols";
        int[] owner = {0, 2, 1, 2, 0, 1, 2, 0, 1, 2, 2, 1};
        TrackChamber y = chamber();
        y.vertex(0, 0, -1, 1);
        y.vertex(0, 0, -1, 2);
        y.vertex(0, 0, -1, 4);
        for (int kind = 0; kind < 12; kind++) {
            y.kind(owner[kind], kind);
            printed(y, owner[kind], "->" + letters.charAt(kind));
        }
    }
}
