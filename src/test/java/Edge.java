import java.util.Map;
import java.util.TreeMap;
import java.util.regex.Matcher;
import java.util.regex.Pattern;

/** A sentence of the document that names a boundary case, the promise that it is about, and a test of its own. */
final class Edge {
    /** What of each promise's text no test has named yet. */
    private static final Map<Integer, String> LEFT = new TreeMap<>();
    private static String termsLeft = Document.terms();

    private Edge() {
    }

    /** The sentence stands under the promise's heading or ahead of all promises, word for word. */
    static void of(int promise, String sentence, Runnable test) {
        Check.about("promise " + promise + ", \"" + sentence + "\": ");
        String own = Document.promise(promise);
        if (!own.contains(sentence) && !Document.terms().contains(sentence)) {
            Check.fault("the document has no such sentence");
        }
        LEFT.put(promise, LEFT.getOrDefault(promise, own).replace(sentence, " "));
        termsLeft = termsLeft.replace(sentence, " ");
        int before = Check.asked();
        test.run();
        if (Check.asked() == before) {
            Check.fault("its test asks nothing");
        }
        Check.about("");
    }

    /** Each promise has a sentence with a test, and each refusal that it names stands in such a sentence. */
    static void needAllNamed() {
        Pattern refusal = Pattern.compile("\\b(BAD|NOT|FULL|STATE|NO|NOTHING|BEYOND|BELOW)\\b");
        for (int promise = 1; promise <= Document.PROMISES; promise++) {
            String left = LEFT.get(promise);
            if (left == null) {
                Check.fault("promise " + promise + " has no test of a boundary case");
                continue;
            }
            Matcher m = refusal.matcher(left);
            if (m.find()) {
                Check.fault("promise " + promise + ": no test names its " + m.group());
            }
        }
    }

    static void printLeft() {
        LEFT.forEach((promise, left) -> System.out.println(promise + ": " + left));
        System.out.println(termsLeft);
    }
}
