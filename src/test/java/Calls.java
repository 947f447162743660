import java.lang.reflect.InvocationTargetException;
import java.lang.reflect.Method;
import java.lang.reflect.Modifier;
import java.util.HashMap;
import java.util.Map;
import java.util.Random;

/** The same calls on the program and on Plain, by their names. */
final class Calls {
    /** What a full chamber is made by, in the order of the calls. */
    private static final String[] BEGIN = {
        "track 0 0 4 0 4 4", "track 0 0 4 0 4 4", "track 0 0 8 0 8 8", "track 0 0 0 4 4 4", "track 0 0 0 4 4 4",
        "track 0 0 1 0 2 0", "track 0 0 1 2 3 1", "kind 0 0", "kind 3 5", "kind 5 1", "vertex 0 0 -1 9",
        "vertex 0 0 0 14", "image", "vertex 0 0 3 16", "kind 4 5", "field 7", "prints 1", "list 0 24", "list 1 5",
        "set 0 23 -7", "set 1 4 9", "feed 102", "feed 50"};
    /** A call of each kind that is not refused there, so that one number at a time can be made otherwise. */
    private static final String[] SOUND = {
        "field 5", "track 0 0 1 0 0 1", "kind 1 4", "vertex 4 4 1 8", "drop", "wipe", "trackOf 2 3", "bend 2",
        "vertexOf 1 2", "numbers 9 3", "count 3", "centre 2 1 0", "on 2 8 8", "meets 0 2 -1", "push 2 8 8 0 0",
        "fits 4 4", "through", "lost 1 0 0", "even 2", "came 0", "spoils 1", "holds 0 0 1 -1", "names 1 2 1 0",
        "calls 1 2 1", "rest 1", "energy 2 8 8 4", "heat 2 1", "evens 2", "feed 59", "reads", "prints 2", "paper 3",
        "list 2 7", "set 0 3 8", "get 0 23", "into 1 0 2", "judge 1 0 2", "undo", "image", "back"};
    private static final int[] NUMBERS = {-257, -256, -101, -42, -22, -21, -20, -19, -14, -13, -9, -5, -4, -3, -2,
        -1, 0, 1, 2, 3, 4, 5, 6, 7, 8, 9, 10, 11, 12, 13, 15, 16, 20, 21, 22, 23, 24, 25, 26, 31, 32, 33, 41, 63,
        64, 119, 120, 121, 126, 127, 128, 129, 255, 256, 257, 1681, 65535, 65536, 65537, 1 << 24, 1 << 30,
        Integer.MIN_VALUE, Integer.MIN_VALUE + 1, Integer.MIN_VALUE + 20, Integer.MAX_VALUE, Integer.MAX_VALUE - 1,
        Integer.MAX_VALUE - 24};

    private static final Map<String, Method> OF_PROGRAM = calls(TrackChamber.class), OF_PLAIN = calls(Plain.class);

    private final TrackChamber x = new TrackChamber();
    private final Plain y = new Plain();

    private Calls() {
    }

    private static Calls begin(boolean full) {
        Calls pair = new Calls();
        for (int i = 0; full && i < BEGIN.length; i++) {
            pair.due(BEGIN[i].split(" "));
        }
        return pair;
    }

    /** Each number of each call, made otherwise; in a full chamber and in a new one. */
    static void eachNumberOtherwise() {
        for (boolean full : new boolean[] {true, false}) {
            for (String sound : SOUND) {
                int numbers = sound.split(" ").length - 1;
                for (int place = 1; place <= numbers; place++) {
                    Calls pair = begin(full);
                    for (int number : NUMBERS) {
                        String[] call = sound.split(" ");
                        call[place] = "" + number;
                        pair.due(call);
                    }
                }
            }
        }
    }

    /** All numbers of a call at once, by a fixed row of numbers. */
    static void allNumbersOtherwise() {
        Random random = new Random(7);
        for (int run = 0; run < 200; run++) {
            Calls pair = begin(run % 4 > 0);
            for (int i = 0; i < 400; i++) {
                String[] call = SOUND[random.nextInt(SOUND.length)].split(" ");
                // Plain goes through the whole grid for these in fractions: a few will do.
                if ((call[0].equals("through") || call[0].equals("meets")) && random.nextInt(20) > 0) {
                    continue;
                }
                for (int place = 1; place < call.length; place++) {
                    if (random.nextInt(3) == 0) {
                        call[place] = "" + NUMBERS[random.nextInt(NUMBERS.length)];
                    }
                }
                pair.due(call);
            }
        }
    }

    private void due(String[] call) {
        long got = answer(x, OF_PROGRAM, call);
        long want = answer(y, OF_PLAIN, call);
        Check.due(String.join(" ", call), got, want);
    }

    private static Map<String, Method> calls(Class<?> owner) {
        Map<String, Method> found = new HashMap<>();
        for (Method m : owner.getDeclaredMethods()) {
            if (!Modifier.isPrivate(m.getModifiers()) && !Modifier.isStatic(m.getModifiers())) {
                found.put(m.getName(), m);
            }
        }
        return found;
    }

    private static long answer(Object who, Map<String, Method> calls, String[] call) {
        Method m = calls.get(call[0]);
        Object[] numbers = new Object[call.length - 1];
        for (int i = 0; i < numbers.length; i++) {
            boolean isInt = m.getParameterTypes()[i] == int.class;
            numbers[i] = isInt ? (Object) Integer.valueOf(call[i + 1]) : (Object) Long.valueOf(call[i + 1]);
        }
        try {
            return ((Number) m.invoke(who, numbers)).longValue();
        } catch (InvocationTargetException | IllegalAccessException e) {
            throw new IllegalStateException(String.join(" ", call), e);
        }
    }
}
