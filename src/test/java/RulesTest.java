import java.lang.reflect.Constructor;
import java.lang.reflect.Field;
import java.lang.reflect.Method;
import java.lang.reflect.Modifier;
import java.nio.file.Files;
import java.nio.file.Path;
import java.util.ArrayList;
import java.util.List;
import java.util.Set;
import java.util.TreeSet;
import java.util.regex.Matcher;
import java.util.regex.Pattern;

/** The public face as the document has it, and what of LANGUAGE.md can be seen from outside or in the source. */
public final class RulesTest {
    private static final Set<String> FACE = new TreeSet<>(List.of(
        "int field(int)", "int track(int,int,int,int,int,int)", "int kind(int,int)", "int vertex(int,int,int,int)",
        "int drop()", "int wipe()", "int trackOf(int,int)", "long bend(int)", "int vertexOf(int,int)",
        "int numbers(int,int)", "int count(int)", "long centre(int,int,int)", "int on(int,int,int)",
        "int meets(int,int,int)", "long push(int,int,int,int,int)", "int fits(int,int)", "int through()",
        "long lost(int,int,int)", "int even(int)", "int came(int)", "int spoils(int)", "int holds(int,int,int,int)",
        "int names(int,int,int,int)", "int calls(int,int,int)", "int rest(int)", "long energy(int,int,int,int)",
        "long heat(int,int)", "int evens(int)", "int feed(int)", "int reads()", "int prints(int)", "int paper(int)",
        "int list(int,int)", "int set(int,int,long)", "long get(int,int)", "int into(int,int,int)",
        "int judge(int,int,int)", "int undo()", "int image()", "int back()"));

    public static void main(String[] args) throws Exception {
        face();
        nestedClasses();
        source(Files.readString(Path.of("src/main/java/TrackChamber.java")));
        Check.end();
    }

    private static void face() throws Exception {
        Check.due("BAD", TrackChamber.BAD, -1);
        Check.due("NOT", TrackChamber.NOT, -2);
        Check.due("FULL", TrackChamber.FULL, -3);
        Check.due("STATE", TrackChamber.STATE, -5);
        Check.due("NO", TrackChamber.NO, Long.MIN_VALUE);
        Class<?> c = TrackChamber.class;
        need(Modifier.isPublic(c.getModifiers()) && Modifier.isFinal(c.getModifiers()), "the class is public and final");
        Set<String> face = new TreeSet<>();
        Set<String> names = new TreeSet<>();
        for (Method m : c.getDeclaredMethods()) {
            if (!Modifier.isPrivate(m.getModifiers()) && !m.isSynthetic()) {
                face.add(m.toGenericString().replaceAll("^public ", "").replace("TrackChamber.", ""));
                names.add(m.getName());
            }
        }
        need(face.equals(FACE), "the face is " + face);
        for (Class<?> one : classes()) {
            for (Method m : one.getDeclaredMethods()) {
                need(Modifier.isPublic(m.getModifiers()) || !names.contains(m.getName()),
                    "no private method has a public one's name: " + m);
                need(m.getParameterCount() <= 7, "at most seven parameters: " + m);
            }
        }
        Constructor<?>[] made = c.getDeclaredConstructors();
        need(made.length == 1 && Modifier.isPublic(made[0].getModifiers()), "one public constructor");
        Set<String> constants = Set.of("BAD", "NOT", "FULL", "STATE", "NO");
        for (Field f : c.getDeclaredFields()) {
            need(Modifier.isPrivate(f.getModifiers()) || constants.contains(f.getName()), "private: " + f);
        }
    }

    private static List<Class<?>> classes() {
        List<Class<?>> all = new ArrayList<>(List.of(TrackChamber.class.getDeclaredClasses()));
        all.add(0, TrackChamber.class);
        return all;
    }

    private static void nestedClasses() {
        need(classes().size() <= 12, "at most twelve classes");
        for (Class<?> c : classes()) {
            int fields = 0;
            for (Field f : c.getDeclaredFields()) {
                if (Modifier.isStatic(f.getModifiers())) {
                    need(Modifier.isFinal(f.getModifiers()), "a static field is final: " + f);
                } else {
                    fields++;
                }
            }
            need(fields <= 20, "at most twenty fields: " + c);
            need(c == TrackChamber.class || Modifier.isStatic(c.getModifiers()), "static: " + c);
        }
    }

    private static void source(String text) {
        String code = text.replaceAll("(?s)/\\*.*?\\*/", " ").replaceAll("//[^\n]*", " ");
        String[] words = {"throw", "throws", "try", "catch", "synchronized", "assert", "import", "package", "Random",
            "System.out", "System.nanoTime", "System.currentTimeMillis", "double", "float", "instanceof", "var"};
        for (String word : words) {
            need(!Pattern.compile("\\b" + Pattern.quote(word) + "\\b").matcher(code).find(), "without " + word);
        }
        need(!code.contains("->") || !code.replaceAll("\"[^\"]*\"", "").contains("->"), "without a lambda");
        need(!code.contains("::"), "without a method reference");
        need(!code.contains("Exact("), "without Exact");
        need(text.chars().allMatch(c -> c == '\n' || c >= 32 && c < 127), "plain signs alone");
        Matcher m = Pattern.compile("\\bfor \\(;;|while \\(true").matcher(code);
        need(!m.find(), "no loop without an end");
        methodsAreShort(code);
        objectsAreMadeAtFirst(code);
    }

    private static void methodsAreShort(String code) {
        Matcher m = Pattern.compile("(?m)^(    |        )(?:public|private) [^=;]*\\) \\{$").matcher(code);
        int seen = 0;
        while (m.find()) {
            int end = code.indexOf("\n" + m.group(1) + "}\n", m.end());
            long lines = code.substring(m.start(), Math.max(m.start(), end)).lines().count() + 1;
            need(end > 0 && lines <= 60, "at most sixty lines: " + m.group().trim() + " has " + lines);
            seen++;
        }
        need(seen > 80, "methods are found");
    }

    /** Rows are made in constructors and at fields alone, so no call takes room. */
    private static void objectsAreMadeAtFirst(String code) {
        for (String line : code.split("\n")) {
            if (line.contains("new ")) {
                boolean field = line.contains("private final ");
                boolean constructor = line.contains("[i] = new ");
                need(field || constructor, "made at first: " + line.trim());
            }
        }
    }

    private static void need(boolean holds, String words) {
        if (!holds) {
            Check.fault("not so: " + words);
        }
    }
}
