/** Counts and prints the calls whose answer is not the one that is due. */
final class Check {
    private static int asked = 0;
    private static int wrong = 0;
    private static String about = "";

    private Check() {
    }

    /** What the answers from here on are about: it is printed ahead of each one that is wrong. */
    static void about(String words) {
        about = words;
    }

    static void due(String call, long got, long want) {
        asked++;
        if (got != want) {
            fault(call + " answered " + got + ", due is " + want);
        }
    }

    static void fault(String words) {
        wrong++;
        System.out.println(about + words);
    }

    static int asked() {
        return asked;
    }

    static int wrong() {
        return wrong;
    }

    /** Feeds a text to THE TAPE. */
    static void feed(TrackChamber x, String text) {
        for (int i = 0; i < text.length(); i++) {
            x.feed(text.charAt(i));
        }
    }

    /** Feeds a text to THE TAPE and reads it. */
    static int read(TrackChamber x, String text) {
        feed(x, text);
        return x.reads();
    }

    static String paper(TrackChamber x) {
        StringBuilder text = new StringBuilder();
        for (int i = 0; i < x.count(6); i++) {
            text.append((char) x.paper(i));
        }
        return text.toString();
    }

    static void end() {
        if (wrong != 0) {
            System.exit(1);
        }
    }
}
