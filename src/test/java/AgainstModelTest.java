import java.lang.reflect.InvocationTargetException;
import java.lang.reflect.Method;
import java.util.ArrayList;
import java.util.Arrays;
import java.util.List;
import java.util.Random;

/** Drawn runs of calls, each answered by SweptSnow as by the plain model. The draws are always the same. */
public final class AgainstModelTest {
    private static final String[] WORDS = {"house", "step", "own", "snow", "strength", "swept", "before", "closed",
        "needed", "next", "beside", "day"};
    private static final String[] SIGNS = {"<", "<=", "=", ">=", ">"};
    private static final String[] DEEDS = {" + ", " - ", "*", " / ", " % "};
    private static final String[] SCRAPS = {"not ", "[", "]", ";", "if", "or", "and", "sweep ", "valley 1 1", "step 3",
        "123456", "7", " ", "snow", "X", "<", "=", ">=", "+", "%", "need 1 0", "path 0 1", "wall 1 0", "house 0 1", "\0"};

    private final Random random;
    private final SweptSnow snow = new SweptSnow();
    private final Model model = new Model();
    private final List<String> calls = new ArrayList<>();
    private int asked;
    private int wrong;

    private AgainstModelTest(long seed) {
        random = new Random(seed);
    }

    public static void main(String[] args) throws Exception {
        int runs = args.length > 0 ? Integer.parseInt(args[0]) : 1500;
        int from = args.length > 1 ? Integer.parseInt(args[1]) : 0;
        int wrong = 0;
        for (int seed = from; seed < from + runs && wrong < 5; seed++) {
            AgainstModelTest run = new AgainstModelTest(seed);
            run.go();
            wrong += run.wrong;
        }
        System.out.println("AgainstModelTest: " + runs + " runs, " + wrong + " wrong");
        if (wrong != 0) {
            System.exit(1);
        }
    }

    private int upTo(int n) {
        return random.nextInt(n + 1);
    }

    private int within(int a, int b) {
        return a + random.nextInt(b - a + 1);
    }

    private int call(String name, int... args) throws Exception {
        Class<?>[] types = new Class<?>[args.length];
        Object[] values = new Object[args.length];
        for (int i = 0; i < args.length; i++) {
            types[i] = int.class;
            values[i] = args[i];
        }
        String told = name + Arrays.toString(args);
        asked++;
        Method due = Model.class.getDeclaredMethod(name, types);
        int want = (Integer) due.invoke(model, values);
        try {
            int got = (Integer) SweptSnow.class.getMethod(name, types).invoke(snow, values);
            calls.add(told + " -> " + got);
            if (got != want) {
                report(told + " answered " + got + ", due is " + want);
            }
        } catch (InvocationTargetException e) {
            report(told + " threw " + e.getCause());
        }
        return want;
    }

    private void report(String what) {
        wrong++;
        if (wrong == 1) {
            calls.forEach(System.out::println);
            System.out.println("WRONG: " + what);
        }
    }

    private void feed(String text) throws Exception {
        for (int i = 0; i < text.length(); i += 20) {
            int[] five = new int[5];
            for (int j = 0; j < 20; j++) {
                int b = i + j < text.length() ? text.charAt(i + j) : upTo(255);
                five[j / 4] = five[j / 4] << 8 | b;
            }
            call("feed", five);
        }
        calls.add("  that is: " + text);
        call("end", text.length());
    }

    private String value() {
        return random.nextInt(3) == 0 ? String.valueOf(within(0, random.nextInt(8) == 0 ? 99999 : 12))
            : WORDS[random.nextInt(WORDS.length)];
    }

    private String sum() {
        StringBuilder b = new StringBuilder(value());
        for (int n = random.nextInt(4); n > 0; n--) {
            b.append(DEEDS[random.nextInt(5)]).append(value());
        }
        return b.toString();
    }

    private String test(int depth) {
        StringBuilder b = new StringBuilder(fact(depth));
        for (int n = random.nextInt(3); n > 0; n--) {
            b.append(random.nextBoolean() ? " and " : " or ").append(fact(depth));
        }
        return b.toString();
    }

    private String fact(int depth) {
        int kind = depth > 12 ? 9 : random.nextInt(depth > 0 && random.nextInt(4) == 0 ? 2 : 8);
        if (kind == 0) {
            return "not " + fact(depth + 1);
        }
        if (kind == 1) {
            return "[" + test(depth + 1) + "]";
        }
        return sum() + SIGNS[random.nextInt(5)] + sum();
    }

    private String rule() {
        StringBuilder b = new StringBuilder();
        int n = random.nextInt(6) == 0 ? within(10, 14) : within(1, 4);
        for (int i = 0; i < n; i++) {
            b.append(i > 0 ? ";" : "").append("sweep ").append(n > 9 ? value() : sum());
            if (random.nextInt(3) > 0) {
                b.append(" if ").append(n > 9 ? "snow>" + value() : test(0));
            }
        }
        return b.toString();
    }

    private String valley() {
        int steps = random.nextInt(30) == 0 ? 9 : upTo(8);
        StringBuilder b = new StringBuilder("valley " + within(1, 9) + " " + within(1, random.nextBoolean() ? 10 : 30));
        for (int i = 0; i < steps; i++) {
            b.append(";step ").append(upTo(random.nextInt(4) == 0 ? 99 : 15));
        }
        int houses = steps == 0 ? 0 : random.nextInt(30) == 0 ? 5 : upTo(4);
        for (int i = 0; i < houses; i++) {
            b.append("; house ").append(upTo(steps - 1)).append(' ').append(within(1, random.nextBoolean() ? 12 : 99));
        }
        if (steps > 1) {
            for (int n = upTo(9); n > 0; n--) {
                int one = upTo(steps - 1);
                b.append(";path ").append(one).append(' ').append((one + within(1, steps - 1)) % steps);
            }
            for (int n = upTo(6); n > 0; n--) {
                int one = upTo(steps - 1);
                b.append(";wall ").append(one).append(' ').append((one + within(1, steps - 1)) % steps);
            }
            for (int n = upTo(6); n > 0; n--) {
                b.append(";need ").append(upTo(random.nextBoolean() ? 30 : 8)).append(' ').append(upTo(steps - 1));
            }
        }
        return b.toString();
    }

    private String spoil(String text) {
        StringBuilder b = new StringBuilder(text);
        for (int n = within(1, 2); n > 0; n--) {
            int at = upTo(b.length());
            int to = Math.min(b.length(), at + upTo(3));
            b.replace(at, to, random.nextInt(3) == 0 ? "" : SCRAPS[random.nextInt(SCRAPS.length)]);
        }
        return b.toString();
    }

    private String cut(String text) {
        return text.length() > 400 ? text.substring(0, 400) : text;
    }

    private void tell(boolean asValley) throws Exception {
        String text = asValley ? valley() : rule();
        if (random.nextInt(5) == 0) {
            text = spoil(text);
        }
        call("end", 0);
        feed(cut(text));
        call(asValley ? "valley" : "rule");
    }

    private int stepOf() {
        return random.nextInt(20) == 0 ? within(-2, 9) : upTo(Math.max(0, model.steps() - 1));
    }

    private int houseOf() {
        return random.nextInt(20) == 0 ? within(-2, 5) : upTo(Math.max(0, model.houses() - 1));
    }

    private int number(int least, int most) {
        int kind = random.nextInt(12);
        return kind == 0 ? least - 1 : kind == 1 ? most + 1 : kind == 2 ? least : kind == 3 ? most : within(least, most);
    }

    private int what(int most) {
        return random.nextInt(15) == 0 ? within(-1, most + 1) : upTo(most);
    }

    private void go() throws Exception {
        if (random.nextInt(10) > 0) {
            tell(true);
        }
        for (int i = upTo(3); i > 0; i--) {
            tell(false);
        }
        // Nothing is promised behind the 512th call, and a telling takes some thirty.
        for (int i = 0; i < 120 && wrong == 0 && asked < 430; i++) {
            act();
            ask();
            if (random.nextInt(12) == 0) {
                for (int what = -1; what <= 15; what++) {
                    call("count", what);
                }
            }
        }
    }

    private void act() throws Exception {
        switch (random.nextInt(16)) {
            case 0: case 1: case 2: call("day"); break;
            case 3: case 4: call("sweep", houseOf(), stepOf()); break;
            case 5: case 6: call("toss", stepOf(), number(1, 99)); break;
            case 7: call("pull", stepOf()); break;
            case 8: call("thaw"); break;
            case 9: case 10: call("undo"); break;
            case 11: call("force", within(-2, model.rules.size())); break;
            case 12: call(random.nextBoolean() ? "image" : "back", number(0, 3)); break;
            case 13: note(); break;
            case 14: call("seed", random.nextInt(9) == 0 ? -1 : random.nextInt(Integer.MAX_VALUE)); break;
            default:
                if (random.nextInt(4) == 0) {
                    tell(random.nextInt(5) == 0);
                } else {
                    call("feed", random.nextInt(), random.nextInt(), random.nextInt(), random.nextInt(), random.nextInt());
                    call("end", number(0, model.tape.size()));
                }
        }
    }

    /** Mostly what one of the RULES does, so that some agree. */
    private void note() throws Exception {
        int n = random.nextInt(6) == 0 ? -1 : number(0, 60);
        int step = stepOf();
        int told = number(0, 999);
        if (n >= 0 && n <= 60 && model.isStep(step) && random.nextInt(5) > 0) {
            int rule = within(-1, model.rules.size() - 1);
            told = model.days(model.valley.begin(), model.valley.strengths(), rule, n).get(n).snow[step];
        }
        call("note", n, step, told);
    }

    private void ask() throws Exception {
        switch (random.nextInt(16)) {
            case 0: call("step", stepOf(), what(5)); break;
            case 1: call("house", houseOf(), what(2)); break;
            case 2: call("ahead", stepOf(), number(0, 100), what(1)); break;
            case 3: call("stays", number(1, 60)); break;
            case 4: call("closes", stepOf()); break;
            case 5: call("ring", what(1)); break;
            case 6: call("spare", stepOf(), number(1, 10), what(1)); break;
            case 7: figure(); break;
            case 8: call("way", stepOf(), stepOf(), what(2)); break;
            case 9: call("pacts", number(1, 30), what(2)); break;
            case 10: call("thrownOn", stepOf(), number(1, 60), what(1)); break;
            case 11: call("best", houseOf(), number(1, 30), what(1)); break;
            case 12: call("might", houseOf(), number(1, 30)); break;
            case 13: call("ruled", what(1)); break;
            case 14: call("look", number(0, 60), what(1)); break;
            default: call("storms", number(1, 10), number(1, 60), number(0, 100), what(1)); break;
        }
    }

    private void figure() throws Exception {
        int all = (1 << model.steps()) - 1;
        int set = model.count(7) ^ (all & 1 << upTo(8)) ^ (all & 1 << upTo(8));
        call("figure", random.nextInt(12) == 0 ? number(0, all) : set, what(1));
    }
}
