/** Boundary cases of promises 30 to 33. */
final class TextsEdges {
    private static final String FIGURES = "0123456789";
    private static final String LETTERS = "pnevabckmols";

    private TextsEdges() {
    }

    static void run() {
        Edge.of(30, "A byte (1 .. 127) comes behind THE TAPE's: how many it has.", TextsEdges::feedLeastAndGreatest);
        Edge.of(30, "BAD;", TextsEdges::feedBeyond);
        Edge.of(30, "FULL.", TextsEdges::feedFull);
        Edge.of(30, "THE TAPE holds never more than 120 bytes;", TextsEdges::tapeOf120);
        ofWriting();
        ofPlaces();
        ofRefused();
        Edge.of(32, "THE PAPER becomes a VERTEX PRINTED: how many bytes.", TextsEdges::printsLeastAndMost);
        Edge.of(32, "the letter of the one IN (? not told, nothing if none is IN),", TextsEdges::printsIn);
        Edge.of(32, "letters of those OUT by numbers (? likewise).", TextsEdges::printsOut);
        Edge.of(32, "BAD.", TextsEdges::printsBeyond);
        Edge.of(33, "THE PAPER what was printed last (nothing at first).", TextsEdges::paperAtFirst);
        Edge.of(33, "THE PAPER stays until the next prints() that is not refused;", TextsEdges::paperStays);
        Edge.of(33, "BAD: below 0;", TextsEdges::paperBelow);
        Edge.of(33, "NOT: it has not as many.", TextsEdges::paperBehind);
    }

    private static void ofWriting() {
        Edge.of(31, "STATEMENTS, one or more, parted by ; :", TextsEdges::statements);
        Edge.of(31, "f and a figure (FIELD);", TextsEdges::writtenF);
        Edge.of(31, "a second figure behind f is a FAULT;", TextsEdges::secondFigureBehindF);
        Edge.of(31, "t and six numbers with , between (x, y of a, b, c): a TRACK;", TextsEdges::writtenT);
        Edge.of(31, "k, a TRACK's figure, a KIND's letter: it is of that;", TextsEdges::writtenK);
        Edge.of(31, "v, a number, a comma, a number (x, y),", TextsEdges::writtenV);
        Edge.of(31, "then perhaps < and a figure (the one IN),", TextsEdges::writtenIn);
        Edge.of(31, "then one to three times > and a figure", TextsEdges::writtenOut);
        Edge.of(31, "(those OUT; one told twice counts once)", TextsEdges::outTwice);
        Edge.of(31, "a figure behind \">\" that stands twice counts once.", TextsEdges::outTwiceInThree);
        Edge.of(31, "A number: perhaps -, one or two figures (as many as stand there, 2 at most).",
            TextsEdges::writtenNumber);
        Edge.of(31, "a third figure of a number, a fourth >: its own place;", TextsEdges::ownPlace);
    }

    private static void ofPlaces() {
        Edge.of(31, "-1000 less the place of the first byte with which no text goes on", TextsEdges::firstByte);
        Edge.of(31, "(the length, if it ends too early, also of no bytes);", TextsEdges::endsTooEarly);
        Edge.of(31, "FAULT, of several the first:", TextsEdges::firstOfSeveral);
        Edge.of(31, "STATEMENTS being done one by one on what those ahead made,", TextsEdges::oneByOne);
        Edge.of(31, "THE TAPE is empty behind each reads(), whatever it answers;", TextsEdges::tapeEmpty);
        Edge.of(31, "THE TAPE is a PICTURE (it comes to what there is): how many STATEMENTS; the FAULT.",
            TextsEdges::howManyStatements);
    }

    private static void ofRefused() {
        Edge.of(31, "-2000 less the place where the first one begins that the call of its kind would refuse.",
            TextsEdges::refusedPlace);
        Edge.of(31, "In a PICTURE numbers beyond the grid, an f0, a ninth TRACK are refused;",
            TextsEdges::refusedNumbers);
        Edge.of(31, "A figure that no TRACK has is read in a text, and refused (-2000);", TextsEdges::refusedFigures);
        Edge.of(31, "that the call of its kind would refuse", TextsEdges::refusedOfEachKind);
        Edge.of(31, "With a FAULT nothing comes.", TextsEdges::nothingComes);
        Edge.of(31, "CHANGES stay with a FAULT.", TextsEdges::changesStay);
    }

    private static void feedLeastAndGreatest() {
        TrackChamber x = new TrackChamber();
        Check.due("feed(1)", x.feed(1), 1);
        Check.due("feed(127)", x.feed(127), 2);
        Check.due("count(5)", x.count(5), 2);
        TrackChamber y = new TrackChamber();
        for (int letter = 8; letter <= 127; letter++) {
            Check.due("feed(" + letter + ")", y.feed(letter), letter - 7);
        }
    }

    private static void feedBeyond() {
        TrackChamber x = new TrackChamber();
        for (int letter : new int[] {0, 128, -1, 129, 255, 256 + 'f', -128}) {
            Check.due("feed(" + letter + ")", x.feed(letter), -1);
        }
        for (int letter : new int[] {Integer.MIN_VALUE, Integer.MAX_VALUE, 65536 + 'f', Integer.MIN_VALUE + 'f'}) {
            Check.due("feed(" + letter + ")", x.feed(letter), -1);
        }
        Check.due("THE TAPE is empty still", x.count(5), 0);
    }

    private static String times(int times, String text) {
        return text.repeat(times);
    }

    private static void feedFull() {
        TrackChamber x = new TrackChamber();
        Check.feed(x, times(39, "f1;") + "f2");
        Check.due("119", x.count(5), 119);
        Check.due("the 120th", x.feed(';'), 120);
        Check.due("the 121st", x.feed('f'), -3);
        Check.due("the 121st again", x.feed('f'), -3);
        Check.due("count(5)", x.count(5), 120);
        Check.due("the 121st is not read", x.reads(), -1120);
        Check.due("there is room again", x.feed('f'), 1);
    }

    private static void tapeOf120() {
        TrackChamber x = new TrackChamber();
        Chambers.square(x, 2);
        Check.due("119 bytes", Check.read(x, times(39, "f1;") + "f2"), 40);
        Check.due("FIELD by the last of 119", x.count(0), 2);
        Check.due("120 bytes", Check.read(x, times(39, "f1;") + "k0p"), 40);
        Check.due("KIND by the last of 120", x.trackOf(0, 7), Chambers.P);
        Check.due("one byte more, which is refused", Check.read(x, times(39, "f1;") + "k0kx"), 40);
        Check.due("KIND by the last of 120", x.trackOf(0, 7), Chambers.K);
        Check.due("ten bytes more, one STATEMENT whole within them",
            Check.read(x, times(39, "f5;") + "k0a;f9;f9;f9"), 40);
        Check.due("FIELD by those ahead", x.count(0), 5);
    }

    /** Behind a text that can go on these bytes alone can stand; without one it is a PICTURE or ends too early. */
    private static void goesOn(String text, String by, boolean whole) {
        for (int letter = 1; letter <= 127; letter++) {
            boolean goes = by.indexOf(letter) >= 0;
            int answer = Check.read(new TrackChamber(), text + (char) letter);
            String call = "reads \"" + text + "\" and " + letter;
            if (goes) {
                Check.due(call + ": goes on", answer == -1000 - text.length() ? 0 : 1, 1);
            } else {
                Check.due(call, answer, -1000 - text.length());
            }
        }
        int answer = Check.read(new TrackChamber(), text);
        if (whole) {
            Check.due("reads \"" + text + "\": no fault of writing", answer > -1000 || answer <= -2000 ? 1 : 0, 1);
        } else {
            Check.due("reads \"" + text + "\"", answer, -1000 - text.length());
        }
    }

    private static void statements() {
        goesOn("", "ftkv", false);
        goesOn("f1;", "ftkv", false);
        goesOn("f1;f2;", "ftkv", false);
        goesOn("f1;k0p;", "ftkv", false);
        TrackChamber x = new TrackChamber();
        Check.due("none", Check.read(x, ""), -1000);
        Check.due("one", Check.read(x, "f4"), 1);
        Check.due("two", Check.read(x, "f5;f6"), 2);
        Check.due("a ; behind", Check.read(x, "f7;"), -1003);
        Check.due("a ; ahead", Check.read(x, ";f7"), -1000);
        Check.due("two ; between", Check.read(x, "f7;;f8"), -1003);
        Check.due("a ; alone", Check.read(x, ";"), -1000);
        Check.due("FIELD", x.count(0), 6);
    }

    private static void writtenF() {
        goesOn("f", FIGURES, false);
        goesOn("f1", ";", true);
        goesOn("f0", ";", true);
        for (int strength = 1; strength <= 9; strength++) {
            TrackChamber x = new TrackChamber();
            Check.due("reads f" + strength, Check.read(x, "f" + strength), 1);
            Check.due("FIELD", x.count(0), strength);
        }
    }

    private static void secondFigureBehindF() {
        TrackChamber x = new TrackChamber();
        Check.due("f10", Check.read(x, "f10"), -1002);
        Check.due("f01", Check.read(x, "f01"), -1002);
        Check.due("f99;f1", Check.read(x, "f99;f1"), -1002);
        Check.due("f1;f22", Check.read(x, "f1;f22"), -1005);
        Check.due("FIELD", x.count(0), 3);
    }

    private static void writtenT() {
        goesOn("t", "-" + FIGURES, false);
        goesOn("t1", "," + FIGURES, false);
        goesOn("t1,", "-" + FIGURES, false);
        goesOn("t1,2", "," + FIGURES, false);
        goesOn("t1,2,3,4", "," + FIGURES, false);
        goesOn("t1,2,3,4,", "-" + FIGURES, false);
        goesOn("t1,2,3,4,5", "," + FIGURES, false);
        goesOn("t1,2,3,4,5,", "-" + FIGURES, false);
        goesOn("t1,2,3,4,5,6", ";" + FIGURES, true);
        goesOn("t1,2,3,4,5,-6", ";" + FIGURES, true);
        goesOn("t1,2,3,4,5,16", ";", true);
        TrackChamber x = new TrackChamber();
        Check.due("five numbers", Check.read(x, "t1,2,3,4,5"), -1010);
        Check.due("seven numbers", Check.read(x, "t1,2,3,4,5,6,7"), -1012);
        Check.due("six numbers", Check.read(x, "t1,-2,3,14,-15,20"), 1);
        int[] due = {1, -2, 3, 14, -15, 20};
        for (int what = 0; what < 6; what++) {
            Check.due("trackOf(0, " + what + ")", x.trackOf(0, what), due[what]);
        }
    }

    private static void writtenK() {
        goesOn("k", FIGURES, false);
        goesOn("k1", LETTERS, false);
        goesOn("k9", LETTERS, false);
        goesOn("k1p", ";", true);
        TrackChamber x = Chambers.eight();
        int[] owner = {0, 5, 3, 6, 1, 4, 7, 2, 3, 5, 6, 4};
        for (int kind = 0; kind < 12; kind++) {
            String text = "k" + owner[kind] + LETTERS.charAt(kind);
            Check.due("reads " + text, Check.read(x, text), 1);
            Check.due("KIND by " + text, x.trackOf(owner[kind], 7), kind);
        }
    }

    private static void writtenV() {
        goesOn("v", "-" + FIGURES, false);
        goesOn("v1", "," + FIGURES, false);
        goesOn("v12", ",", false);
        goesOn("v-1", "," + FIGURES, false);
        goesOn("v1,", "-" + FIGURES, false);
        goesOn("v1,2", "<>" + FIGURES, false);
        goesOn("v1,23", "<>", false);
        goesOn("v1,-2", "<>" + FIGURES, false);
        TrackChamber x = new TrackChamber();
        x.track(-20, 20, 0, 0, 20, -20);
        x.track(-20, -20, 0, 0, 20, 20);
        Check.due("corners", Check.read(x, "v-20,20>0;v20,-20>0;v20,20>1"), 3);
        int[][] due = {{0, 40}, {40, 0}, {40, 40}};
        for (int vertex = 0; vertex < 3; vertex++) {
            Check.due("x of " + vertex, x.vertexOf(vertex, 0), due[vertex][0]);
            Check.due("y of " + vertex, x.vertexOf(vertex, 1), due[vertex][1]);
        }
    }

    private static void writtenIn() {
        goesOn("v1,2<", FIGURES, false);
        goesOn("v1,2<3", ">", false);
        goesOn("v1,2<0", ">", false);
        goesOn("v1,2<3>", FIGURES, false);
        TrackChamber x = Chambers.eight();
        Check.due("none IN, the first IN, the last IN", Check.read(x, "v0,0>1;v0,0<0>1;v0,0<7>1"), 3);
        Check.due("none IN", x.vertexOf(0, 2), 8);
        Check.due("the first IN", x.vertexOf(1, 2), 0);
        Check.due("the last IN", x.vertexOf(2, 2), 7);
        Check.due("two IN", Check.read(x, "v0,0<0<1>2"), -1006);
        Check.due("IN behind OUT", Check.read(x, "v0,0>2<0"), -1006);
        Check.due("two figures", Check.read(x, "v0,0<01>2"), -1006);
    }

    private static void writtenOut() {
        goesOn("v1,2>", FIGURES, false);
        goesOn("v1,2>3", ">;", true);
        goesOn("v1,2>3>", FIGURES, false);
        goesOn("v1,2>3>4", ">;", true);
        goesOn("v1,2>3>4>", FIGURES, false);
        goesOn("v1,2>3>4>5", ";", true);
        goesOn("v1,2<9>3>4>5", ";", true);
        TrackChamber x = Chambers.eight();
        Check.due("none OUT", Check.read(x, "v0,0"), -1004);
        Check.due("none OUT, one IN", Check.read(x, "v0,0<0"), -1006);
        Check.due("four OUT", Check.read(x, "v0,0>0>1>2>3"), -1010);
        Check.due("one, two, three OUT", Check.read(x, "v0,0>0;v0,0<0>7>1;v0,0>7>3>5"), 3);
        Check.due("one OUT", x.vertexOf(0, 3), 1);
        Check.due("two OUT", x.vertexOf(1, 3), 2 + 128);
        Check.due("three OUT", x.vertexOf(2, 3), 8 + 32 + 128);
    }

    private static void outTwice() {
        TrackChamber x = Chambers.eight();
        Check.due("twice", Check.read(x, "v0,0>4>4"), 1);
        Check.due("once OUT", x.vertexOf(0, 3), 16);
        Check.due("bytes printed", Check.read(x, "v0,0<0>1>1") * 100 + x.prints(1), 100 + 4);
        Check.due("the one IN, twice OUT", Check.read(x, "v0,0<0>0>0"), -2000);
    }

    private static void outTwiceInThree() {
        TrackChamber x = Chambers.eight();
        Check.due("three times", Check.read(x, "v0,0>4>4>4"), 1);
        Check.due("first and last", Check.read(x, "v0,0>4>7>4"), 1);
        Check.due("the last two", Check.read(x, "v0,0>2>0>0"), 1);
        Check.due("OUT by three times", x.vertexOf(0, 3), 16);
        Check.due("OUT by first and last", x.vertexOf(1, 3), 16 + 128);
        Check.due("OUT by the last two", x.vertexOf(2, 3), 1 + 4);
        Check.due("four times", Check.read(x, "v0,0>4>4>4>4"), -1010);
    }

    private static void writtenNumber() {
        goesOn("t-", FIGURES, false);
        goesOn("t-1", "," + FIGURES, false);
        goesOn("t12", ",", false);
        goesOn("t-12", ",", false);
        goesOn("v1,-", FIGURES, false);
        goesOn("v1,-12", "<>", false);
        TrackChamber x = new TrackChamber();
        Check.due("0 ahead, - and 0, greatest and least", Check.read(x, "t-0,00,-00,07,-03,20;t-20,9,-9,0,19,-1"), 2);
        int[][] due = {{0, 0, 0, 7, -3, 20}, {-20, 9, -9, 0, 19, -1}};
        for (int what = 0; what < 12; what++) {
            Check.due("number " + what, x.trackOf(what / 6, what % 6), due[what / 6][what % 6]);
        }
    }

    private static void ownPlace() {
        TrackChamber x = new TrackChamber();
        Check.due("third figure of the first number", Check.read(x, "t123,2,3,4,5,6"), -1003);
        Check.due("third figure behind -", Check.read(x, "t-123,2,3,4,5,6"), -1004);
        Check.due("third figure of the last number", Check.read(x, "t1,2,3,4,5,678"), -1013);
        Check.due("third figure, of 0 alone", Check.read(x, "t000,2,3,4,5,6"), -1003);
        Check.due("third figure of a VERTEX's y", Check.read(x, "v1,-234>0"), -1006);
        Check.due("fourth >", Check.read(x, "v0,0>0>1>2>3"), -1010);
        Check.due("fourth > behind <", Check.read(x, "v0,0<3>0>1>2>3"), -1012);
        Check.due("fourth > alone", Check.read(x, "f1;v0,0>0>1>2>"), -1013);
    }

    private static void firstByte() {
        TrackChamber x = new TrackChamber();
        Check.due("place 0", Check.read(x, "x"), -1000);
        Check.due("place 1", Check.read(x, "fx"), -1001);
        Check.due("place 2", Check.read(x, "f1x"), -1002);
        Check.due("place 3", Check.read(x, "f1;x"), -1003);
        Check.due("great letters", Check.read(x, "F1"), -1000);
        Check.due("a blank ahead", Check.read(x, " f1"), -1000);
        Check.due("a blank behind", Check.read(x, "f1 "), -1002);
        Check.due("a +", Check.read(x, "t+1,2,3,4,5,6"), -1001);
        Check.due("byte 1", Check.read(x, "f" + (char) 1), -1001);
        Check.due("byte 127", Check.read(x, "f1" + (char) 127), -1002);
        Check.due("the last of 119", Check.read(x, times(39, "f1;") + "fx"), -1118);
        Check.due("the last of 120", Check.read(x, times(39, "f1;") + "f1x"), -1119);
    }

    private static void endsTooEarly() {
        TrackChamber x = new TrackChamber();
        Check.due("no bytes", x.reads(), -1000);
        Check.due("no bytes again", x.reads(), -1000);
        String[] whole = {"f1", "t1,2,3,4,5,6", "k0p", "v1,2<3>4"};
        for (String text : whole) {
            for (int length = 1; length < text.length(); length++) {
                String begin = text.substring(0, length);
                Check.due("reads \"" + begin + "\"", Check.read(new TrackChamber(), begin), -1000 - length);
                Check.due("reads \"f1;" + begin + "\"", Check.read(new TrackChamber(), "f1;" + begin), -1003 - length);
            }
        }
        Check.due("a - alone", Check.read(x, "t1,2,3,4,5,-"), -1012);
        Check.due("119 bytes", Check.read(x, times(39, "f1;") + "k1"), -1119);
        Check.due("120 bytes", Check.read(x, times(40, "f1;")), -1120);
    }

    private static void firstOfSeveral() {
        TrackChamber x = Chambers.eight();
        Check.due("two of writing", Check.read(x, "fx;ky"), -1001);
        Check.due("two of writing, the other way", Check.read(x, "ky;fx"), -1001);
        Check.due("two refused", Check.read(x, "f1;f0;k0b;f0"), -2003);
        Check.due("refused, then one of writing", Check.read(x, "f0;k0b;f"), -1008);
        Check.due("refused, then a ; too many", Check.read(x, "f0;"), -1003);
        Check.due("one of writing, then refused", Check.read(x, "fx;f0"), -1001);
        Check.due("within one STATEMENT", Check.read(x, "t99,99,99,99,99,999"), -1018);
    }

    private static void oneByOne() {
        TrackChamber x = new TrackChamber();
        Check.due("all by those ahead", Check.read(x, "t0,0,4,0,4,4;k0a;k0p;t0,0,0,4,4,4;k1b;v0,0>0>1;f1;f2"), 8);
        Check.due("KIND of 0", x.trackOf(0, 7), Chambers.P);
        Check.due("OUT", x.vertexOf(0, 3), 3);
        Check.due("FIELD", x.count(0), 2);
        TrackChamber y = new TrackChamber();
        Check.due("a KIND ahead of its TRACK", Check.read(y, "k0p;t0,0,4,0,4,4"), -2000);
        Check.due("a VERTEX ahead of its TRACK", Check.read(y, "f1;v0,0>0;t0,0,4,0,4,4"), -2003);
        Check.due("the fifth VERTEX", Check.read(y, "t0,0,4,0,4,4;" + times(5, "v0,0>0;") + "f1"), -2041);
        Check.due("four VERTICES", Check.read(y, "t0,0,4,0,4,4;" + times(4, "v0,0>0;") + "f1"), 6);
        TrackChamber z = new TrackChamber();
        String track = "t0,0,1,0,0,1";
        Check.due("nine TRACKS", Check.read(z, times(8, track + ";") + track), -2104);
        Check.due("eight TRACKS", Check.read(z, times(7, track + ";") + track + ";k7p"), 9);
        Check.due("the eighth's KIND", z.trackOf(7, 7), Chambers.P);
    }

    private static void tapeEmpty() {
        String[] texts = {"", "f2", "f", "fx", "f0", "f2;f0", "k9p"};
        int[] due = {-1000, 1, -1001, -1001, -2000, -2003, -2000};
        TrackChamber x = new TrackChamber();
        for (int i = 0; i < texts.length; i++) {
            Check.due("reads \"" + texts[i] + "\"", Check.read(x, texts[i]), due[i]);
            Check.due("count(5) behind \"" + texts[i] + "\"", x.count(5), 0);
            Check.due("reads behind \"" + texts[i] + "\"", x.reads(), -1000);
            Check.due("feed behind \"" + texts[i] + "\"", x.feed('f'), 1);
            Check.due("FIELD by what is fed then", x.feed('4') + x.reads(), 3);
        }
    }

    private static void howManyStatements() {
        TrackChamber x = Chambers.eight();
        x.vertex(0, 0, -1, 1);
        x.kind(0, Chambers.K);
        Check.due("one", Check.read(x, "f1"), 1);
        Check.due("it comes to what there is: TRACKS", x.count(1), 8);
        Check.due("it comes to what there is: KIND", x.trackOf(0, 7), Chambers.K);
        Check.due("another VERTEX", Check.read(x, "v4,4>1>2;k0p"), 2);
        Check.due("VERTICES", x.count(2), 2);
        Check.due("OUT of the first", x.vertexOf(0, 3), 1);
        Check.due("OUT of the second", x.vertexOf(1, 3), 6);
        Check.due("KIND of 0", x.trackOf(0, 7), Chambers.P);
        Check.due("forty", Check.read(x, times(39, "f1;") + "f9"), 40);
    }

    private static void refusedPlace() {
        TrackChamber x = Chambers.eight();
        Check.due("place 0", Check.read(x, "f0"), -2000);
        Check.due("place 3", Check.read(x, "f1;f0"), -2003);
        Check.due("place 7", Check.read(x, "f1;k0p;v1,1>0;f2"), -2007);
        Check.due("place 9", Check.read(x, "v0,0<0>1;f0"), -2009);
        Check.due("place 117", Check.read(x, times(39, "f1;") + "f0"), -2117);
        Check.due("place 117 of 120", Check.read(x, times(39, "f1;") + "k0b"), -2117);
        Check.due("VERTICES", x.count(2), 0);
    }

    private static void refused(String text) {
        TrackChamber x = Chambers.eight();
        x.wipe();
        Check.due("reads " + text, Check.read(x, text), -2000);
        Check.due("reads f1; and " + text, Check.read(x, "f1;" + text), -2003);
    }

    private static void refusedNumbers() {
        refused("f0");
        refused("t21,0,1,1,2,2");
        refused("t-21,0,1,1,2,2");
        refused("t0,21,1,1,2,2");
        refused("t0,0,-21,1,2,2");
        refused("t0,0,1,21,2,2");
        refused("t0,0,1,1,-21,2");
        refused("t0,0,1,1,2,99");
        refused("t0,0,1,1,2,-99");
        refused("v21,0>5");
        refused("v-21,0>5");
        refused("v0,21>5");
        refused("v0,-99>5");
        TrackChamber x = Chambers.eight();
        Check.due("a ninth TRACK", Check.read(x, "t0,0,1,1,2,3"), -2000);
        x.wipe();
        Check.due("an eighth and a ninth TRACK", Check.read(x, "t0,0,1,1,2,3;t0,0,1,1,2,3"), -2013);
        Check.due("an eighth TRACK", Check.read(x, "t0,0,1,1,2,3"), 1);
    }

    private static void refusedFigures() {
        // Seven TRACKS: 7, 8, 9 are none.
        for (int figure = 7; figure <= 9; figure++) {
            refused("k" + figure + "p");
            refused("k" + figure + "n");
            refused("v0,0>" + figure);
            refused("v0,0<" + figure + ">0");
            refused("v0,0>0>" + figure);
            refused("v0,0>" + figure + ">0>1");
            refused("v0,0<0>1>2>" + figure);
        }
        TrackChamber x = new TrackChamber();
        Check.due("no TRACKS, k0p", Check.read(x, "k0p"), -2000);
        Check.due("no TRACKS, v0,0>0", Check.read(x, "v0,0>0"), -2000);
        Check.due("no TRACKS, v0,0<0>1", Check.read(x, "v0,0<0>1"), -2000);
        TrackChamber y = Chambers.eight();
        Check.due("eight TRACKS, k8n", Check.read(y, "k8n"), -2000);
        Check.due("eight TRACKS, v0,0>8", Check.read(y, "v0,0>8"), -2000);
        Check.due("eight TRACKS, v0,0<8>0", Check.read(y, "v0,0<8>0"), -2000);
        Check.due("eight TRACKS, k7n;v0,0<7>6", Check.read(y, "k7n;v0,0<7>6"), 2);
    }

    private static void refusedOfEachKind() {
        refused("t1,2,1,2,3,4");
        refused("t1,2,3,4,1,2");
        refused("t3,4,1,2,1,2");
        refused("t0,0,-0,00,1,1");
        refused("k0b");
        refused("k0n");
        refused("k3p");
        refused("k5a");
        refused("v0,0<0>0");
        refused("v0,0<2>0>1>2");
        refused("v0,0<3>3>3");
        refused("v1,1>0");
        refused("v4,4<5>0");
        refused("v4,4>0>5");
        TrackChamber x = Chambers.eight();
        Check.due("the fifth VERTEX", Check.read(x, times(4, "v0,0>0;") + "v0,0>0"), -2028);
        Check.due("four VERTICES", Check.read(x, times(3, "v0,0>0;") + "v0,0>0"), 4);
        Check.due("the fifth VERTEX alone", Check.read(x, "v0,0>0"), -2000);
    }

    private static void nothingComes() {
        String[] texts = {"f9;t0,0,1,0,0,1;k0p;v0,0>0;f", "f9;t0,0,1,0,0,1;k0p;v0,0>0;f0", "f9;k5n;v0,0>1;v0,0>1;x",
            "f9;k5n;v0,0>1;v0,0>1;k0b", "k0a;k0p;k0k;k0b"};
        int[] due = {-1028, -2027, -1021, -2021, -2012};
        for (int i = 0; i < texts.length; i++) {
            String text = texts[i];
            TrackChamber x = Chambers.eight();
            x.wipe();
            x.vertex(0, 0, 0, 2);
            x.kind(0, Chambers.A);
            Check.due("reads \"" + text + "\"", Check.read(x, text), due[i]);
            Check.due("FIELD", x.count(0), 3);
            Check.due("TRACKS", x.count(1), 7);
            Check.due("VERTICES", x.count(2), 1);
            Check.due("told", x.count(3), 1);
            Check.due("KIND", x.trackOf(0, 7), Chambers.A);
        }
    }

    private static void changesStay() {
        TrackChamber x = new TrackChamber();
        for (int i = 1; i <= 9; i++) {
            x.field(i);
        }
        Check.due("of writing", Check.read(x, "f1;f"), -1004);
        Check.due("eight stay", x.count(4), 8);
        Check.due("refused", Check.read(x, "f1;f2;f0"), -2006);
        Check.due("eight stay still", x.count(4), 8);
        for (int i = 8; i >= 1; i--) {
            Check.due("undo()", x.undo(), i - 1);
            Check.due("FIELD", x.count(0), i);
            Check.due("refused between", Check.read(x, "f9;k0p"), -2003);
        }
        Check.due("no more", x.undo(), -2);
    }

    private static void printed(TrackChamber x, int vertex, String want) {
        Check.due("prints(" + vertex + ")", x.prints(vertex), want.length());
        Check.due("count(6)", x.count(6), want.length());
        String got = Check.paper(x);
        Check.due("\"" + got + "\" is \"" + want + "\"", got.equals(want) ? 1 : 0, 1);
    }

    private static void printsLeastAndMost() {
        TrackChamber x = Chambers.eight();
        x.vertex(0, 0, -1, 1);
        x.vertex(0, 0, 0, 2 + 8 + 128);
        printed(x, 0, "->?");
        printed(x, 1, "?->???");
        printed(x, 0, "->?");
        x.kind(0, Chambers.P);
        printed(x, 1, "p->???");
    }

    private static void printsIn() {
        TrackChamber x = Chambers.eight();
        x.vertex(0, 0, -1, 1);
        x.vertex(0, 0, 3, 1);
        x.vertex(0, 0, 0, 2);
        printed(x, 0, "->?");
        printed(x, 1, "?->?");
        x.kind(3, Chambers.S);
        printed(x, 1, "s->?");
        x.kind(0, Chambers.P);
        printed(x, 2, "p->?");
        x.kind(3, -1);
        printed(x, 1, "?->p");
    }

    private static void printsOut() {
        TrackChamber x = Chambers.eight();
        x.vertex(0, 0, 4, 1 + 8 + 128);
        printed(x, 0, "?->???");
        x.kind(3, Chambers.B);
        printed(x, 0, "?->?b?");
        x.kind(0, Chambers.K);
        printed(x, 0, "?->kb?");
        x.kind(7, Chambers.L);
        printed(x, 0, "?->kbl");
        x.kind(3, -1);
        printed(x, 0, "?->k?l");
        TrackChamber y = Chambers.eight();
        y.vertex(0, 0, -1, 1);
        y.vertex(0, 0, -1, 8);
        y.vertex(0, 0, -1, 32);
        int[] vertex = {0, 2, 1, 2, 0, 1, 2, 0, 1, 2, 2, 1};
        int[] track = {0, 3, 5};
        for (int kind = 0; kind < 12; kind++) {
            y.kind(track[vertex[kind]], kind);
            printed(y, vertex[kind], "->" + LETTERS.charAt(kind));
        }
    }

    private static void printsBeyond() {
        Check.due("no VERTICES", new TrackChamber().prints(0), -1);
        TrackChamber x = Chambers.eight();
        x.vertex(0, 0, -1, 1);
        for (int vertex : new int[] {-1, 1}) {
            Check.due("prints(" + vertex + ")", x.prints(vertex), -1);
        }
        for (int vertex : Chambers.FAR) {
            Check.due("prints(" + vertex + ")", x.prints(vertex), -1);
        }
        x.drop();
        Check.due("prints(0), dropped", x.prints(0), -1);
    }

    private static void paperAtFirst() {
        TrackChamber x = Chambers.eight();
        Check.due("paper(0) at first", x.paper(0), -2);
        Check.due("count(6) at first", x.count(6), 0);
        x.vertex(0, 0, 0, 2 + 4 + 8);
        x.vertex(0, 0, -1, 2);
        printed(x, 0, "?->???");
        printed(x, 1, "->?");
        Check.due("nothing of the one printed ahead of it", x.paper(3), -2);
    }

    private static void paperStays() {
        TrackChamber x = Chambers.eight();
        x.kind(0, Chambers.K);
        x.vertex(0, 0, 0, 2);
        printed(x, 0, "k->?");
        x.prints(1);
        Check.due("behind a refused prints()", x.count(6) * 1000 + x.paper(0), 4000 + 'k');
        x.kind(0, Chambers.P);
        x.kind(1, Chambers.P);
        x.drop();
        x.image();
        x.undo();
        x.back();
        Check.read(x, "f1");
        Check.read(x, "f");
        Check.due("behind all other calls", x.count(6) * 1000 + x.paper(0), 4000 + 'k');
        Check.due("behind all other calls, OUT", x.paper(3), '?');
    }

    private static void paperBelow() {
        TrackChamber x = new TrackChamber();
        Check.due("paper(-1), nothing printed", x.paper(-1), -1);
        Check.due("least, nothing printed", x.paper(Integer.MIN_VALUE), -1);
        TrackChamber y = Chambers.full();
        Check.due("paper(-1)", y.paper(-1), -1);
        Check.due("least", y.paper(Integer.MIN_VALUE), -1);
        Check.due("paper(0)", y.paper(0), 'p');
    }

    private static void paperBehind() {
        TrackChamber x = Chambers.full();
        Check.due("the last", x.paper(5), 'b');
        Check.due("behind it", x.paper(6), -2);
        Check.due("greatest", x.paper(Integer.MAX_VALUE), -2);
        x.prints(0);
        Check.due("the last of four", x.paper(3), 'b');
        Check.due("behind it", x.paper(4), -2);
    }
}
