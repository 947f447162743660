/** Counts and prints the calls whose answer is not the one that is due. */
final class Check {
    private static int wrong = 0;

    private Check() {
    }

    static void due(String call, long got, long want) {
        if (got != want) {
            wrong++;
            System.out.println(call + " answered " + got + ", due is " + want);
        }
    }

    static void fault(String words) {
        wrong++;
        System.out.println(words);
    }

    static int wrong() {
        return wrong;
    }

    /** Feeds a text to THE TAPE and reads it. */
    static int read(TrackChamber x, String text) {
        for (int i = 0; i < text.length(); i++) {
            x.feed(text.charAt(i));
        }
        return x.reads();
    }

    static String paper(TrackChamber x) {
        StringBuilder text = new StringBuilder();
        for (int i = 0; i < x.count(6); i++) {
            text.append((char) x.paper(i));
        }
        return text.toString();
    }

    static void end() {
        if (wrong != 0) {
            System.exit(1);
        }
    }
}
