import java.util.ArrayDeque;
import java.util.ArrayList;
import java.util.Arrays;
import java.util.HashMap;
import java.util.List;
import java.util.Map;
import java.util.TreeMap;
import java.util.TreeSet;

/** The document once more, written for plainness and nothing else; the tests hold SweptSnow against it. */
final class Model {
    static final int NONE = -1;

    static final class Fault extends Exception {
        private static final long serialVersionUID = 1;
        final int number;

        Fault(int place, int what) {
            super(null, null, false, false);
            number = 1 + 8 * place + what;
        }
    }

    record Token(String text, int place) {
        boolean isNumber() {
            return !text.isEmpty() && Character.isDigit(text.charAt(0));
        }
    }

    /** What words are asked of. */
    record View(Valley valley, State state, int[] strengths, int house, int step) {
        boolean closed(int s) {
            return state.snow[s] >= valley.deep;
        }

        long word(String word) {
            switch (word) {
                case "house": return house;
                case "step": return step;
                case "own": return valley.houses.get(house)[0] == step ? 1 : 0;
                case "snow": return state.snow[step];
                case "strength": return strengths[house];
                case "swept": return state.swept.contains(step) ? 1 : 0;
                case "before": return state.before.contains(step) ? 1 : 0;
                case "closed": return valley.closed(state).size();
                case "needed": return valley.needed(state.day).contains(step) ? 1 : 0;
                case "next":
                    for (int i = 0; i < 99; i++) {
                        if (valley.needed(state.day + i).contains(step)) {
                            return i;
                        }
                    }
                    return 99;
                case "beside":
                    int n = 0;
                    for (int s : valley.closed(state)) {
                        n += valley.paths.contains(s * 10 + step) ? 1 : 0;
                    }
                    return n;
                case "day": return state.day;
                default: throw new IllegalStateException(word);
            }
        }
    }

    interface Sum {
        long of(View v);
    }

    interface Fact {
        boolean of(View v);
    }

    record Clause(Sum sum, Fact test) { }

    static final class Valley {
        int fall;
        int deep;
        final List<Integer> firstSnow = new ArrayList<>();
        final List<int[]> houses = new ArrayList<>();
        final TreeSet<Integer> paths = new TreeSet<>();
        final TreeMap<Integer, Integer> firstWalls = new TreeMap<>();
        final TreeSet<Integer> needs = new TreeSet<>();

        TreeSet<Integer> closed(State s) {
            TreeSet<Integer> all = new TreeSet<>();
            for (int i = 0; i < s.snow.length; i++) {
                if (s.snow[i] >= deep) {
                    all.add(i);
                }
            }
            return all;
        }

        TreeSet<Integer> needed(int day) {
            TreeSet<Integer> all = new TreeSet<>();
            for (int need : needs) {
                if (need / 10 == day) {
                    all.add(need % 10);
                }
            }
            return all;
        }

        State begin() {
            State s = new State();
            s.snow = firstSnow.stream().mapToInt(i -> i).toArray();
            s.walls = new TreeMap<>(firstWalls);
            return s;
        }

        int[] strengths() {
            return houses.stream().mapToInt(h -> h[1]).toArray();
        }
    }

    static final class State {
        int[] snow = new int[0];
        TreeMap<Integer, Integer> walls = new TreeMap<>();
        TreeSet<Integer> swept = new TreeSet<>();
        TreeSet<Integer> before = new TreeSet<>();
        TreeSet<Integer> busy = new TreeSet<>();
        int day;
        long[] thrown = new long[8];
        long[] fallen = new long[8];

        State copy() {
            State s = new State();
            s.snow = snow.clone();
            s.walls = new TreeMap<>(walls);
            s.swept = new TreeSet<>(swept);
            s.before = new TreeSet<>(before);
            s.busy = new TreeSet<>(busy);
            s.day = day;
            return s;
        }

        int all() {
            return Arrays.stream(snow).sum();
        }
    }

    static final class Reader {
        final List<Token> tokens = new ArrayList<>();
        int at;
        int parts;

        Reader(int[] tape) {
            int i = 0;
            while (i < tape.length) {
                int from = i;
                int c = tape[i];
                StringBuilder b = new StringBuilder();
                if (c == 32) {
                    i++;
                    continue;
                }
                if (c >= 'a' && c <= 'z') {
                    while (i < tape.length && tape[i] >= 'a' && tape[i] <= 'z') {
                        b.append((char) tape[i++]);
                    }
                } else if (c >= '0' && c <= '9') {
                    while (i < tape.length && tape[i] >= '0' && tape[i] <= '9') {
                        b.append((char) tape[i++]);
                    }
                } else {
                    b.append((char) tape[i++]);
                    if ((c == '<' || c == '>') && i < tape.length && tape[i] == '=') {
                        b.append((char) tape[i++]);
                    }
                }
                tokens.add(new Token(b.toString(), from));
            }
            tokens.add(new Token("", tape.length));
        }

        Token peek() {
            return tokens.get(at);
        }

        boolean take(String text) {
            if (peek().text.equals(text)) {
                at++;
                return true;
            }
            return false;
        }

        Fault fault(int what) {
            return new Fault(peek().place, what);
        }

        int number(int least, int most) throws Fault {
            if (!peek().isNumber()) {
                throw fault(0);
            }
            if (peek().text.length() > 5) {
                throw fault(1);
            }
            int n = Integer.parseInt(peek().text);
            if (n < least || n > most) {
                throw fault(1);
            }
            at++;
            return n;
        }

        boolean more() throws Fault {
            if (peek().text.isEmpty()) {
                return false;
            }
            if (!take(";")) {
                throw fault(0);
            }
            return true;
        }

        Valley valley() throws Fault {
            Valley v = new Valley();
            int clauses = 0;
            do {
                String kind = peek().text;
                if (!List.of("valley", "step", "house", "path", "wall", "need").contains(kind)) {
                    throw fault(0);
                }
                boolean bad = clauses == 40 || kind.equals("valley") != (clauses == 0)
                    || kind.equals("step") && v.firstSnow.size() == 8 || kind.equals("house") && v.houses.size() == 4;
                if (bad) {
                    throw fault(4);
                }
                clauses++;
                at++;
                int last = v.firstSnow.size() - 1;
                switch (kind) {
                    case "valley": v.fall = number(1, 9); v.deep = number(1, 30); break;
                    case "step": v.firstSnow.add(number(0, 99)); break;
                    case "house": v.houses.add(new int[] {number(0, last), number(1, 99)}); break;
                    case "need": v.needs.add(10 * number(0, 30) + number(0, last)); break;
                    default:
                        int a = number(0, last);
                        Token second = peek();
                        int b = number(0, last);
                        if (a == b) {
                            throw new Fault(second.place, 1);
                        }
                        if (kind.equals("wall")) {
                            v.firstWalls.put(a, b);
                        } else {
                            v.paths.add(10 * a + b);
                            v.paths.add(10 * b + a);
                        }
                }
            } while (more());
            return v;
        }

        List<Clause> rule() throws Fault {
            List<Clause> clauses = new ArrayList<>();
            do {
                if (!peek().text.equals("sweep")) {
                    throw fault(0);
                }
                if (clauses.size() == 12) {
                    throw fault(4);
                }
                at++;
                Sum sum = sum();
                clauses.add(new Clause(sum, take("if") ? test(0) : null));
            } while (more());
            return clauses;
        }

        void part() throws Fault {
            if (++parts > 60) {
                throw fault(3);
            }
        }

        Fact test(int depth) throws Fault {
            Fact left = conjunction(depth);
            while (take("or")) {
                Fact a = left;
                Fact b = conjunction(depth);
                left = v -> a.of(v) || b.of(v);
            }
            return left;
        }

        Fact conjunction(int depth) throws Fault {
            Fact left = fact(depth);
            while (take("and")) {
                Fact a = left;
                Fact b = fact(depth);
                left = v -> a.of(v) && b.of(v);
            }
            return left;
        }

        Fact fact(int depth) throws Fault {
            String text = peek().text;
            if ((text.equals("not") || text.equals("[")) && depth == 10) {
                throw fault(2);
            }
            if (take("not")) {
                Fact inner = fact(depth + 1);
                return v -> !inner.of(v);
            }
            if (take("[")) {
                Fact inner = test(depth + 1);
                if (!take("]")) {
                    throw fault(0);
                }
                return inner;
            }
            Sum a = sum();
            String sign = peek().text;
            if (!List.of("<", "<=", "=", ">=", ">").contains(sign)) {
                throw fault(0);
            }
            part();
            at++;
            Sum b = sum();
            return v -> {
                int c = Long.compare(a.of(v), b.of(v));
                return sign.equals("<") ? c < 0 : sign.equals("<=") ? c <= 0 : sign.equals("=") ? c == 0
                    : sign.equals(">=") ? c >= 0 : c > 0;
            };
        }

        Sum sum() throws Fault {
            Sum left = term();
            while (true) {
                Sum a = left;
                if (take("+")) {
                    Sum b = term();
                    left = v -> a.of(v) + b.of(v);
                } else if (take("-")) {
                    Sum b = term();
                    left = v -> a.of(v) - b.of(v);
                } else {
                    return left;
                }
            }
        }

        Sum term() throws Fault {
            Sum left = value();
            while (true) {
                Sum a = left;
                if (take("*")) {
                    Sum b = value();
                    left = v -> a.of(v) * b.of(v);
                } else if (take("/")) {
                    Sum b = value();
                    left = v -> b.of(v) == 0 ? 0 : a.of(v) / b.of(v);
                } else if (take("%")) {
                    Sum b = value();
                    left = v -> b.of(v) == 0 ? 0 : a.of(v) % b.of(v);
                } else {
                    return left;
                }
            }
        }

        Sum value() throws Fault {
            Token t = peek();
            List<String> words = List.of("house", "step", "own", "snow", "strength", "swept", "before", "closed",
                "needed", "next", "beside", "day");
            if (t.isNumber()) {
                if (t.text.length() > 5) {
                    throw fault(1);
                }
                part();
                at++;
                long n = Long.parseLong(t.text);
                return v -> n;
            }
            if (!words.contains(t.text)) {
                throw fault(0);
            }
            part();
            at++;
            return v -> v.word(t.text);
        }
    }

    record Kept(Valley valley, State state, int inForce, int x, List<int[]> notes) { }

    List<Integer> tape = new ArrayList<>();
    final List<List<Clause>> rules = new ArrayList<>();
    Valley valley;
    State state = new State();
    int inForce = NONE;
    int x;
    List<int[]> notes = new ArrayList<>();
    final ArrayDeque<State> acts = new ArrayDeque<>();
    final Map<Integer, Kept> images = new HashMap<>();

    static int bits(Iterable<Integer> set) {
        int b = 0;
        for (int i : set) {
            b |= 1 << i;
        }
        return b;
    }

    int steps() {
        return valley == null ? 0 : valley.firstSnow.size();
    }

    int houses() {
        return valley == null ? 0 : valley.houses.size();
    }

    boolean isStep(int s) {
        return s >= 0 && s < steps();
    }

    boolean isHouse(int h) {
        return h >= 0 && h < houses();
    }

    int feed(int a, int b, int c, int d, int e) {
        if (tape.size() + 20 > 400) {
            return NONE;
        }
        for (int n : new int[] {a, b, c, d, e}) {
            tape.addAll(List.of(n >>> 24, n >>> 16 & 255, n >>> 8 & 255, n & 255));
        }
        return tape.size();
    }

    int end(int n) {
        if (n < 0 || n > tape.size()) {
            return NONE;
        }
        tape = new ArrayList<>(tape.subList(0, n));
        return n;
    }

    Reader reader() {
        Reader r = new Reader(tape.stream().mapToInt(i -> i).toArray());
        tape = new ArrayList<>();
        return r;
    }

    int valley() {
        try {
            valley = reader().valley();
        } catch (Fault f) {
            return -2 - f.number;
        }
        state = valley.begin();
        notes = new ArrayList<>();
        acts.clear();
        return steps();
    }

    int rule() {
        if (rules.size() == 6) {
            return NONE;
        }
        try {
            rules.add(reader().rule());
        } catch (Fault f) {
            return -2 - f.number;
        }
        return rules.size() - 1;
    }

    int force(int rule) {
        if (rule < -1 || rule >= rules.size()) {
            return -2;
        }
        int was = inForce;
        inForce = rule;
        return was;
    }

    int step(int s, int what) {
        if (!isStep(s) || what < 0 || what > 5) {
            return -2;
        }
        TreeSet<Integer> beside = new TreeSet<>();
        for (int p : valley.paths) {
            if (p / 10 == s) {
                beside.add(p % 10);
            }
        }
        return new int[] {state.snow[s], valley.closed(state).contains(s) ? 1 : 0, state.swept.contains(s) ? 1 : 0,
            state.walls.getOrDefault(s, NONE), bits(beside), valley.needed(state.day).contains(s) ? 1 : 0}[what];
    }

    int house(int h, int what) {
        if (!isHouse(h) || what < 0 || what > 2) {
            return NONE;
        }
        return what == 2 ? state.busy.contains(h) ? 1 : 0 : valley.houses.get(h)[what];
    }

    static int sweepBy(State s, int[] strengths, int house, int step) {
        int taken = Math.min(strengths[house], s.snow[step]);
        s.snow[step] -= taken;
        if (taken > 0) {
            s.swept.add(step);
        }
        s.busy.add(house);
        if (s.walls.containsKey(step)) {
            int b = s.walls.get(step);
            s.thrown[b] += taken;
            s.snow[b] = Math.min(999, s.snow[b] + taken);
        }
        return taken;
    }

    static void night(Valley v, State s) {
        for (int i : s.swept) {
            s.fallen[i] += v.fall;
            s.snow[i] = Math.min(999, s.snow[i] + v.fall);
        }
        s.before = s.swept;
        s.swept = new TreeSet<>();
        s.busy = new TreeSet<>();
        s.day++;
    }

    int pass(State s, int[] strengths, int rule) {
        for (int h = 0; h < houses(); h++) {
            if (s.busy.contains(h)) {
                continue;
            }
            if (rule == NONE) {
                int own = valley.houses.get(h)[0];
                if (valley.closed(s).contains(own)) {
                    sweepBy(s, strengths, h, own);
                }
                continue;
            }
            long[] worth = new long[steps()];
            for (int i = 0; i < steps(); i++) {
                View v = new View(valley, s, strengths, h, i);
                for (Clause c : rules.get(rule)) {
                    if (s.snow[i] > 0 && (c.test == null || c.test.of(v))) {
                        worth[i] = c.sum.of(v);
                        break;
                    }
                }
            }
            long most = Arrays.stream(worth).max().orElse(0);
            for (int i = 0; i < steps() && most > 0; i++) {
                if (worth[i] == most) {
                    sweepBy(s, strengths, h, i);
                    break;
                }
            }
        }
        int swept = bits(s.swept);
        night(valley, s);
        return swept;
    }

    /** State at the begin of each DAY, from this one on. */
    List<State> days(State from, int[] strengths, int rule, int n) {
        List<State> all = new ArrayList<>();
        State s = from.copy();
        all.add(s.copy());
        for (int i = 0; i < n; i++) {
            pass(s, strengths, rule);
            all.add(s.copy());
        }
        return all;
    }

    List<State> days(int n) {
        return days(state, valley.strengths(), inForce, n);
    }

    void keep() {
        acts.addLast(state.copy());
        if (acts.size() > 20) {
            acts.removeFirst();
        }
    }

    int day() {
        if (valley == null || state.day == 999) {
            return NONE;
        }
        keep();
        return pass(state, valley.strengths(), inForce);
    }

    int sweep(int h, int s) {
        if (!isHouse(h) || !isStep(s) || state.snow[s] == 0 || state.busy.contains(h)) {
            return NONE;
        }
        keep();
        return sweepBy(state, valley.strengths(), h, s);
    }

    int toss(int s, int snow) {
        if (!isStep(s) || snow < 1 || snow > 99) {
            return NONE;
        }
        keep();
        return state.snow[s] = Math.min(999, state.snow[s] + snow);
    }

    int pull(int s) {
        if (!state.walls.containsKey(s)) {
            return NONE;
        }
        keep();
        return state.walls.remove(s);
    }

    int thaw() {
        if (state.all() == 0) {
            return NONE;
        }
        keep();
        for (int i = 0; i < steps(); i++) {
            state.snow[i] -= (state.snow[i] + 1) / 2;
        }
        return state.all();
    }

    int undo() {
        if (acts.isEmpty()) {
            return NONE;
        }
        state = acts.removeLast();
        return acts.size();
    }

    int ahead(int s, int n, int what) {
        if (valley == null || n < 0 || n > 100 || what < 0 || what > 1 || what == 0 && !isStep(s)) {
            return NONE;
        }
        State then = days(n).get(n);
        return what == 0 ? then.snow[s] : valley.closed(then).size();
    }

    int stays(int n) {
        if (valley == null || n < 1 || n > 60) {
            return NONE;
        }
        int open = (1 << steps()) - 1;
        for (State s : days(n)) {
            open &= ~bits(valley.closed(s));
        }
        return open;
    }

    int closes(int s) {
        if (!isStep(s)) {
            return NONE;
        }
        for (State d : days(99)) {
            if (valley.closed(d).contains(s)) {
                return d.day;
            }
        }
        return -2;
    }

    int ring(int what) {
        if (valley == null || what < 0 || what > 1) {
            return NONE;
        }
        List<State> all = days(60);
        for (int i = 0; i < 60; i++) {
            for (int j = i + 1; j <= 60; j++) {
                if (Arrays.equals(all.get(i).snow, all.get(j).snow)) {
                    return what == 0 ? all.get(i).day : j - i;
                }
            }
        }
        return -2;
    }

    int spare(int s, int n, int what) {
        if (!isStep(s) || n < 1 || n > 10 || what < 0 || what > 1) {
            return NONE;
        }
        for (int many = 0; ; many++) {
            for (int row = 0; row < 1 << n; row++) {
                if (Integer.bitCount(row) != many) {
                    continue;
                }
                int snow = state.snow[s];
                boolean good = true;
                for (int i = 0; i < n; i++) {
                    boolean swept = (row & 1 << i) != 0;
                    snow = swept ? 0 : snow;
                    good &= snow < valley.deep || !valley.needed(state.day + i).contains(s);
                    snow += swept ? valley.fall : 0;
                }
                if (good) {
                    return what == 0 ? many : row;
                }
            }
        }
    }

    int figure(int set, int what) {
        if (valley == null || set < 0 || set >= 1 << steps() || what < 0 || what > 1) {
            return NONE;
        }
        for (int many = 0; many <= 8; many++) {
            for (int m = 0; m < 1 << steps(); m++) {
                if (Integer.bitCount(m) != many) {
                    continue;
                }
                State s = state.copy();
                boolean good = true;
                for (int i = 0; i < steps(); i++) {
                    if ((m & 1 << i) != 0) {
                        good &= state.snow[i] > 0;
                        s.snow[i] -= state.snow[i];
                        s.swept.add(i);
                        if (s.walls.containsKey(i)) {
                            s.snow[s.walls.get(i)] += state.snow[i];
                        }
                    }
                }
                night(valley, s);
                if (good && bits(valley.closed(s)) == set) {
                    return what == 0 ? many : m;
                }
            }
        }
        return -2;
    }

    List<Integer> bestWay;

    void walk(List<Integer> soFar, int to) {
        int here = soFar.get(soFar.size() - 1);
        if (here == to) {
            if (bestWay == null || compare(soFar, bestWay) < 0) {
                bestWay = new ArrayList<>(soFar);
            }
            return;
        }
        for (int s = 0; s < steps(); s++) {
            if (valley.paths.contains(10 * here + s) && !soFar.contains(s)) {
                soFar.add(s);
                walk(soFar, to);
                soFar.remove(soFar.size() - 1);
            }
        }
    }

    int closedOn(List<Integer> way) {
        TreeSet<Integer> closed = valley.closed(state);
        return (int) way.stream().filter(closed::contains).count();
    }

    int compare(List<Integer> a, List<Integer> b) {
        int c = Integer.compare(closedOn(a), closedOn(b));
        if (c == 0) {
            c = Integer.compare(a.size(), b.size());
        }
        return c == 0 ? a.toString().compareTo(b.toString()) : c;
    }

    int way(int from, int to, int what) {
        if (!isStep(from) || !isStep(to) || what < 0 || what > 2) {
            return -3;
        }
        bestWay = null;
        walk(new ArrayList<>(List.of(from)), to);
        if (bestWay == null) {
            return -2;
        }
        return what == 0 ? closedOn(bestWay) : what == 1 ? bestWay.size() : from == to ? NONE : bestWay.get(1);
    }

    int[] gains(int set, int n) {
        int[] gain = new int[houses()];
        State s = state.copy();
        for (int i = 0; i < n; i++) {
            for (int h = 0; h < houses(); h++) {
                int own = valley.houses.get(h)[0];
                if ((set & 1 << h) != 0 && s.snow[own] > 0) {
                    sweepBy(s, valley.strengths(), h, own);
                    gain[h] -= 1;
                }
            }
            night(valley, s);
            for (int h = 0; h < houses(); h++) {
                gain[h] += s.snow[valley.houses.get(h)[0]] < valley.deep ? 2 : 0;
            }
        }
        return gain;
    }

    int pacts(int n, int what) {
        if (valley == null || n < 1 || n > 30 || what < 0 || what > 2) {
            return NONE;
        }
        TreeSet<Integer> pacts = new TreeSet<>();
        TreeSet<Integer> sums = new TreeSet<>();
        for (int set = 0; set < 1 << houses(); set++) {
            int[] gain = gains(set, n);
            sums.add(Arrays.stream(gain).sum());
            boolean stable = true;
            for (int h = 0; h < houses(); h++) {
                stable &= gains(set ^ 1 << h, n)[h] <= gain[h];
            }
            if (stable) {
                pacts.add(set);
            }
        }
        return what == 0 ? pacts.size() : what == 2 ? sums.last() - sums.first() : pacts.isEmpty() ? -2 : pacts.first();
    }

    int thrownOn(int s, int n, int what) {
        if (!isStep(s) || n < 1 || n > 60 || what < 0 || what > 1) {
            return NONE;
        }
        State t = state.copy();
        for (int i = 0; i < n; i++) {
            pass(t, valley.strengths(), inForce);
        }
        return (int) (what == 0 ? t.thrown[s] : t.fallen[s]);
    }

    int best(int h, int n, int what) {
        if (!isHouse(h) || state.busy.contains(h) || n < 1 || n > 30 || what < 0 || what > 1) {
            return -2;
        }
        int best = NONE;
        int few = 100;
        for (int s = NONE; s < steps(); s++) {
            State t = state.copy();
            if (s != NONE && t.snow[s] == 0) {
                continue;
            }
            if (s != NONE) {
                sweepBy(t, valley.strengths(), h, s);
            }
            int closed = valley.closed(days(t, valley.strengths(), inForce, n).get(n)).size();
            if (closed < few) {
                few = closed;
                best = s;
            }
        }
        return what == 0 ? best : few;
    }

    int might(int h, int n) {
        if (!isHouse(h) || n < 1 || n > 30) {
            return NONE;
        }
        for (int strength = 1; strength <= 99; strength++) {
            int[] strengths = valley.strengths();
            strengths[h] = strength;
            boolean open = true;
            for (State s : days(state, strengths, inForce, n).subList(1, n + 1)) {
                open &= s.snow[valley.houses.get(h)[0]] < valley.deep;
            }
            if (open) {
                return strength;
            }
        }
        return -2;
    }

    int note(int n, int s, int snow) {
        if (n == NONE) {
            notes = new ArrayList<>();
            return 0;
        }
        if (n < 0 || n > 60 || !isStep(s) || snow < 0 || snow > 999 || notes.size() == 10) {
            return -2;
        }
        notes.add(new int[] {n, s, snow});
        return notes.size();
    }

    TreeSet<Integer> right() {
        TreeSet<Integer> right = new TreeSet<>();
        for (int r = NONE; r < rules.size(); r++) {
            List<State> all = days(valley.begin(), valley.strengths(), r, 60);
            boolean good = true;
            for (int[] note : notes) {
                good &= all.get(note[0]).snow[note[1]] == note[2];
            }
            if (good) {
                right.add(r);
            }
        }
        return right;
    }

    int ruled(int what) {
        if (valley == null || what < 0 || what > 1) {
            return -3;
        }
        TreeSet<Integer> right = right();
        return what == 0 ? right.size() : right.isEmpty() ? -2 : right.first();
    }

    int look(int n, int what) {
        if (valley == null || n < 0 || n > 60 || what < 0 || what > 1) {
            return NONE;
        }
        TreeSet<Integer> right = right();
        int best = -2;
        int few = 100;
        for (int s = 0; s < steps() && !right.isEmpty(); s++) {
            Map<Integer, Integer> groups = new HashMap<>();
            for (int r : right) {
                groups.merge(days(valley.begin(), valley.strengths(), r, n).get(n).snow[s], 1, Integer::sum);
            }
            int most = groups.values().stream().mapToInt(i -> i).max().orElse(0);
            if (most < few) {
                few = most;
                best = s;
            }
        }
        return best == -2 || what == 0 ? best : few;
    }

    int seed(int n) {
        if (n < 0) {
            return NONE;
        }
        int was = x;
        x = n;
        return was;
    }

    int storms(int m, int n, int p, int what) {
        if (valley == null || m < 1 || m > 10 || n < 1 || n > 60 || p < 0 || p > 100 || what < 0 || what > 1) {
            return NONE;
        }
        long drawn = x;
        int sum = 0;
        for (int i = 0; i < m; i++) {
            State s = state.copy();
            for (int j = 0; j < n; j++) {
                drawn = (drawn * 1103515245L + 12345L) % 2147483648L;
                if (drawn / 65536 % 100 < p && steps() > 0) {
                    drawn = (drawn * 1103515245L + 12345L) % 2147483648L;
                    int on = (int) (drawn / 65536 % steps());
                    s.snow[on] = Math.min(999, s.snow[on] + valley.fall);
                }
                pass(s, valley.strengths(), inForce);
            }
            sum += what == 0 ? s.all() : valley.closed(s).size();
        }
        return sum;
    }

    int count(int what) {
        switch (what) {
            case 0: return valley == null ? 0 : valley.fall;
            case 1: return valley == null ? 0 : valley.deep;
            case 2: return steps();
            case 3: return houses();
            case 4: return rules.size();
            case 5: return inForce;
            case 6: return state.day;
            case 7: return valley == null ? 0 : bits(valley.closed(state));
            case 8: return bits(state.swept);
            case 9: return valley == null ? 0 : bits(valley.needed(state.day));
            case 10: return state.all();
            case 11: return notes.size();
            case 12: return acts.size();
            case 13: return x;
            case 14: return tape.size();
            default: return NONE;
        }
    }

    int image(int k) {
        if (k < 0 || k > 3) {
            return NONE;
        }
        images.put(k, new Kept(valley, state.copy(), inForce, x, new ArrayList<>(notes)));
        return state.day;
    }

    int back(int k) {
        Kept kept = images.get(k);
        if (kept == null) {
            return NONE;
        }
        valley = kept.valley;
        state = kept.state.copy();
        inForce = kept.inForce;
        x = kept.x;
        notes = new ArrayList<>(kept.notes);
        acts.clear();
        return state.day;
    }
}
