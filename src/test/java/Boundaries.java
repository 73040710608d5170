import java.lang.reflect.Method;
import java.util.ArrayList;
import java.util.Arrays;
import java.util.List;

/**
 * What the tests of boundary cases share: sentences of the document, calls by name, answers that are due,
 * and whether all stays as it was. A scene is made anew for each call that must change nothing, so that no
 * object comes near its 512th call.
 */
abstract class Boundaries {
    static final int NONE = -1;
    static final int LOWEST = Integer.MIN_VALUE;
    static final int HIGHEST = Integer.MAX_VALUE;
    static final String VILLAGE = "valley 3 5;step 7;step 2;step 0;house 0 10;house 1 4;path 0 1;path 1 2;"
        + "wall 0 1;need 1 0;need 2 0";
    static final List<String> SENTENCES = new ArrayList<>();
    static int asked;
    static int wrong;

    SweptSnow x = new SweptSnow();
    private Runnable scene = () -> { };
    private String lies;

    abstract void go();

    /** The words of the document to which the answers that follow hold. */
    void says(String words) {
        SENTENCES.add(words);
    }

    private static void report(String what) {
        wrong++;
        System.out.println("\"" + SENTENCES.get(SENTENCES.size() - 1) + "\": " + what);
    }

    int call(String name, int... args) {
        Class<?>[] types = new Class<?>[args.length];
        Object[] values = new Object[args.length];
        for (int i = 0; i < args.length; i++) {
            types[i] = int.class;
            values[i] = args[i];
        }
        try {
            Method method = SweptSnow.class.getMethod(name, types);
            return (Integer) method.invoke(x, values);
        } catch (ReflectiveOperationException e) {
            report(name + Arrays.toString(args) + " failed: " + (e.getCause() == null ? e : e.getCause()));
            return LOWEST;
        }
    }

    void due(int want, String name, int... args) {
        is(want, call(name, args), name + Arrays.toString(args));
    }

    void is(int want, int got, String call) {
        asked++;
        if (got != want) {
            report(call + " answered " + got + ", due is " + want);
        }
    }

    void snow(int... want) {
        for (int i = 0; i < want.length; i++) {
            due(want[i], "step", i, 0);
        }
    }

    /** Whether the answers of count are these, from what 0 on. */
    void counts(int... want) {
        for (int i = 0; i < want.length; i++) {
            due(want[i], "count", i);
        }
    }

    static int four(String bytes) {
        int number = 0;
        for (int i = 0; i < 4; i++) {
            number = number << 8 | bytes.charAt(i);
        }
        return number;
    }

    static String times(String text, int n) {
        return text.repeat(n);
    }

    static String filled(String text, int length) {
        return text + " ".repeat(length - text.length());
    }

    /** The TAPE holds just this text. */
    void tell(String text) {
        call("end", 0);
        for (int i = 0; i < text.length(); i += 20) {
            String bytes = text.substring(i, Math.min(text.length(), i + 20)) + "?".repeat(20);
            call("feed", four(bytes), four(bytes.substring(4)), four(bytes.substring(8)), four(bytes.substring(12)),
                four(bytes.substring(16)));
        }
        call("end", text.length());
    }

    int valley(String text) {
        tell(text);
        return call("valley");
    }

    int rule(String text) {
        tell(text);
        return call("rule");
    }

    /** A new object with a VALLEY and RULES, the last of which is IN FORCE. */
    void fresh(String valley, String... rules) {
        x = new SweptSnow();
        valley(valley);
        for (String rule : rules) {
            call("force", rule(rule));
        }
    }

    /** So much more SNOW than lies on a STEP by now, though a THROW brings 99 at most. */
    void heap(int step, int more) {
        for (int left = more; left > 0; left -= 99) {
            call("toss", step, Math.min(99, left));
        }
    }

    void days(int n) {
        for (int i = 0; i < n; i++) {
            call("day");
        }
    }

    /** x is as this makes it; so is each object on which still(..) calls. */
    void scene(Runnable makes) {
        scene = makes;
        makes.run();
        lies = everything();
        makes.run();
    }

    /** The answer is due, and behind the call all is as it would be without. */
    void still(int want, String name, int... args) {
        SweptSnow kept = x;
        scene.run();
        due(want, name, args);
        same(name + Arrays.toString(args));
        x = kept;
    }

    /** Whatever the answer, behind the call all is as it would be without. */
    void unchanged(String name, int... args) {
        SweptSnow kept = x;
        scene.run();
        call(name, args);
        same(name + Arrays.toString(args));
        x = kept;
    }

    /** Whether x, on which some calls were made that must change nothing, is as the scene makes it. */
    void same(String calls) {
        asked++;
        String then = everything();
        if (!then.equals(lies)) {
            report(calls + " changed " + lies + " to " + then);
        }
    }

    /** Of one argument what lies outside of its bounds, just and far, is refused, and all stays. */
    void outside(int want, String name, int index, int least, int most, int... args) {
        for (int value : new int[] {least - 1, most + 1, LOWEST, HIGHEST}) {
            // Of a bound that is the last int there is none beyond.
            if (value < least || value > most) {
                int[] spoiled = args.clone();
                spoiled[index] = value;
                still(want, name, spoiled);
            }
        }
    }

    /** All that x tells, the ACTS that can be UNDONE, the IMAGES and the TAPE too: x is used up by it. */
    private String everything() {
        StringBuilder b = new StringBuilder();
        for (int what = 0; what < 15; what++) {
            b.append(call("count", what)).append(' ');
        }
        for (int i = 0; i < 8; i++) {
            b.append("| ");
            for (int what = 0; what < 6; what++) {
                b.append(call("step", i, what)).append(' ').append(call("house", i, what % 3)).append(' ');
            }
            b.append(call("ahead", i, 2, 0)).append(' ');
        }
        b.append("notes ").append(call("ruled", 0)).append(' ').append(call("ruled", 1)).append(' ')
            .append(call("look", 1, 0)).append(' ').append(call("look", 1, 1)).append(" acts ");
        for (int i = 0; i < 21; i++) {
            b.append(call("undo")).append(' ').append(call("count", 6)).append(' ').append(call("count", 8)).append(' ')
                .append(call("count", 10)).append(' ').append(call("step", 0, 3)).append(' ');
        }
        for (int k = 0; k < 4; k++) {
            b.append("image ").append(call("back", k)).append(' ').append(call("count", 2)).append(' ')
                .append(call("count", 5)).append(' ').append(call("count", 10)).append(' ').append(call("count", 11))
                .append(' ').append(call("count", 13)).append(' ');
        }
        return b.append("tape ").append(call("valley")).append(' ').append(call("count", 10)).toString();
    }

    /** A DAY on which much was done: 0, 11 and 4 SNOW, the second HOUSE has swept; a VALLEY is on the TAPE. */
    void busy() {
        fresh(VILLAGE, "sweep 0", "sweep snow if own = 1");
        call("image", 2);
        call("day");
        call("seed", 77);
        call("note", 1, 0, 3);
        call("note", 1, 1, 8);
        call("toss", 2, 4);
        call("sweep", 1, 0);
        tell("valley 2 2;step 9");
    }

    /** A VALLEY without STEPS. */
    void bare() {
        fresh("valley 1 1");
        tell("valley 2 2;step 9");
    }

    /** No VALLEY. */
    void nothing() {
        x = new SweptSnow();
        tell("valley 2 2;step 9");
    }
}
