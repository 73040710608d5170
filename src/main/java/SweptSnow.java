/**
 * Snow comes down where it was cleared: a valley of doorsteps, houses, paths, walls and needs, told
 * in a language; rules by which the houses sweep, told in a language; acts by hand and questions.
 * What each call does stands in the document, as promises 1 to 33.
 */
public final class SweptSnow {
    public static final int NONE = -1;

    private static final int NO_SUCH = -2;
    private static final int NO_QUESTION = -3;
    private static final int STEPS_MOST = 8;
    private static final int HOUSES_MOST = 4;
    private static final int RULES_MOST = 6;
    private static final int NOTES_MOST = 10;
    private static final int IMAGES_MOST = 4;
    private static final int SNOW_MOST = 999;
    private static final int DAY_MOST = 999;

    private final Tape tape;
    private final ValleyReader valleyReader;
    private final RuleReader ruleReader;
    private final Rule[] rules;
    private int ruleCount;
    private final World now;
    private final World[] images;
    private final Acts acts;
    private final Winter winter;
    private final Forecast forecast;
    private final Plans plans;

    public SweptSnow() {
        tape = new Tape();
        valleyReader = new ValleyReader(tape);
        ruleReader = new RuleReader(tape);
        rules = new Rule[RULES_MOST];
        now = new World();
        images = new World[IMAGES_MOST];
        acts = new Acts();
        winter = new Winter(now.valley);
        forecast = new Forecast(now, rules, winter);
        plans = new Plans(now, winter);
    }

    public int feed(int a, int b, int c, int d, int e) {
        if (tape.length > Tape.MOST - 20) {
            return NONE;
        }
        tape.put(a);
        tape.put(b);
        tape.put(c);
        tape.put(d);
        tape.put(e);
        return tape.length;
    }

    public int end(int n) {
        if (n < 0 || n > tape.length) {
            return NONE;
        }
        tape.length = n;
        return n;
    }

    public int valley() {
        Valley told = valleyReader.readValley();
        // The TAPE was taken, whether it was a VALLEY or not; "all stays" is said of what is there.
        tape.length = 0;
        if (told == null) {
            return -2 - tape.fault;
        }
        now.settle(told);
        acts.forget();
        return told.steps;
    }

    public int rule() {
        if (ruleCount >= rules.length) {
            return NONE;
        }
        Rule told = ruleReader.readRule();
        tape.length = 0;
        if (told == null) {
            return -2 - tape.fault;
        }
        rules[ruleCount] = told;
        ruleCount++;
        return ruleCount - 1;
    }

    public int force(int rule) {
        if (rule < NONE || rule >= ruleCount) {
            return NO_SUCH;
        }
        int was = now.inForce;
        now.inForce = rule;
        return was;
    }

    public int step(int step, int what) {
        if (!isStep(step)) {
            return NO_SUCH;
        }
        switch (what) {
            case 0:
                return now.ground.snow[step];
            case 1:
                return now.closedBits() >> step & 1;
            case 2:
                return now.ground.swept >> step & 1;
            case 3:
                return now.ground.wall[step];
            case 4:
                return now.valley.beside[step];
            case 5:
                return now.valley.neededBits(now.ground.day) >> step & 1;
            default:
                return NO_SUCH;
        }
    }

    public int house(int house, int what) {
        if (!isHouse(house)) {
            return NONE;
        }
        switch (what) {
            case 0:
                return now.valley.own[house];
            case 1:
                return now.valley.strength[house];
            case 2:
                return now.ground.busy >> house & 1;
            default:
                return NONE;
        }
    }

    public int day() {
        if (!now.valley.told || now.ground.day >= DAY_MOST) {
            return NONE;
        }
        acts.keep(now.ground);
        forecast.start();
        int swept = winter.passDay();
        now.ground.copyFrom(winter.ground);
        return swept;
    }

    public int sweep(int house, int step) {
        if (!isFree(house) || !isStep(step) || now.ground.snow[step] == 0) {
            return NONE;
        }
        acts.keep(now.ground);
        forecast.start();
        int taken = winter.sweepBy(house, step);
        now.ground.copyFrom(winter.ground);
        return taken;
    }

    public int toss(int step, int snow) {
        if (!isStep(step) || !isWithin(snow, 1, 99)) {
            return NONE;
        }
        acts.keep(now.ground);
        now.ground.lay(step, snow);
        return now.ground.snow[step];
    }

    public int pull(int step) {
        if (!isStep(step) || now.ground.wall[step] == NONE) {
            return NONE;
        }
        acts.keep(now.ground);
        int behind = now.ground.wall[step];
        now.ground.wall[step] = NONE;
        return behind;
    }

    public int thaw() {
        if (now.ground.snowOfAll() == 0) {
            return NONE;
        }
        acts.keep(now.ground);
        now.ground.halve();
        return now.ground.snowOfAll();
    }

    public int undo() {
        return acts.takeBack(now.ground);
    }

    public int ahead(int step, int n, int what) {
        if (!now.valley.told || !isWithin(n, 0, 100)) {
            return NONE;
        }
        if (what == 1) {
            return forecast.closedAfter(n);
        }
        return what == 0 && isStep(step) ? forecast.snowAfter(step, n) : NONE;
    }

    public int stays(int n) {
        return now.valley.told && isWithin(n, 1, 60) ? forecast.openThrough(n) : NONE;
    }

    public int closes(int step) {
        return isStep(step) ? forecast.firstClosed(step) : NONE;
    }

    public int ring(int what) {
        return now.valley.told && isWithin(what, 0, 1) ? forecast.ringOf(what == 1) : NONE;
    }

    public int spare(int step, int n, int what) {
        if (!isStep(step) || !isWithin(n, 1, 10) || !isWithin(what, 0, 1)) {
            return NONE;
        }
        int row = plans.fewestSweepings(step, n);
        return what == 0 ? Integer.bitCount(row) : row;
    }

    public int figure(int steps, int what) {
        if (!now.valley.told || !isWithin(what, 0, 1) || !isWithin(steps, 0, (1 << now.valley.steps) - 1)) {
            return NONE;
        }
        int set = plans.fewestSwept(steps);
        if (set == NO_SUCH) {
            return NO_SUCH;
        }
        return what == 0 ? Integer.bitCount(set) : set;
    }

    public int way(int from, int to, int what) {
        if (!isStep(from) || !isStep(to) || !isWithin(what, 0, 2)) {
            return NO_QUESTION;
        }
        return plans.wayOf(from, to, what);
    }

    public int pacts(int n, int what) {
        if (!now.valley.told || !isWithin(n, 1, 30) || !isWithin(what, 0, 2)) {
            return NONE;
        }
        plans.weighSets(n);
        if (what == 2) {
            return plans.spread();
        }
        return what == 0 ? plans.pactCount() : plans.leastPact();
    }

    public int thrownOn(int step, int n, int what) {
        if (!isStep(step) || !isWithin(n, 1, 60) || !isWithin(what, 0, 1)) {
            return NONE;
        }
        forecast.go(n);
        return what == 0 ? winter.thrown[step] : winter.fallen[step];
    }

    public int best(int house, int n, int what) {
        if (!isFree(house) || !isWithin(n, 1, 30) || !isWithin(what, 0, 1)) {
            return NO_SUCH;
        }
        return forecast.bestSweep(house, n, what == 1);
    }

    public int might(int house, int n) {
        return isHouse(house) && isWithin(n, 1, 30) ? forecast.leastStrength(house, n) : NONE;
    }

    public int note(int n, int step, int snow) {
        if (n == NONE) {
            now.notes = 0;
            return 0;
        }
        if (!isWithin(n, 0, 60) || !isStep(step) || !isWithin(snow, 0, SNOW_MOST) || now.notes >= NOTES_MOST) {
            return NO_SUCH;
        }
        return now.addNote(n, step, snow);
    }

    public int ruled(int what) {
        if (!now.valley.told || !isWithin(what, 0, 1)) {
            return NO_QUESTION;
        }
        forecast.judge(ruleCount, 0);
        return what == 0 ? forecast.rightCount() : forecast.firstRight();
    }

    public int look(int n, int what) {
        if (!now.valley.told || !isWithin(n, 0, 60) || !isWithin(what, 0, 1)) {
            return NONE;
        }
        forecast.judge(ruleCount, n);
        return forecast.partingStep(what == 1);
    }

    public int seed(int x) {
        if (x < 0) {
            return NONE;
        }
        int was = now.drawn;
        now.drawn = x;
        return was;
    }

    public int storms(int m, int n, int p, int what) {
        if (!now.valley.told || !isWithin(m, 1, 10) || !isWithin(n, 1, 60)) {
            return NONE;
        }
        if (!isWithin(p, 0, 100) || !isWithin(what, 0, 1)) {
            return NONE;
        }
        return forecast.afterStorms(m, n, p, what == 1);
    }

    public int count(int what) {
        switch (what) {
            case 0:
                return now.valley.fall;
            case 1:
                return now.valley.deep;
            case 2:
                return now.valley.steps;
            case 3:
                return now.valley.houses;
            case 4:
                return ruleCount;
            case 5:
                return now.inForce;
            case 6:
                return now.ground.day;
            case 7:
                return now.closedBits();
            case 8:
                return now.ground.swept;
            case 9:
                return now.valley.neededBits(now.ground.day);
            case 10:
                return now.ground.snowOfAll();
            case 11:
                return now.notes;
            case 12:
                return acts.count;
            case 13:
                return now.drawn;
            case 14:
                return tape.length;
            default:
                return NONE;
        }
    }

    public int image(int k) {
        if (k < 0 || k >= images.length) {
            return NONE;
        }
        if (images[k] == null) {
            images[k] = new World();
        }
        images[k].copyFrom(now);
        return now.ground.day;
    }

    public int back(int k) {
        if (k < 0 || k >= images.length || images[k] == null) {
            return NONE;
        }
        now.copyFrom(images[k]);
        acts.forget();
        return now.ground.day;
    }

    private boolean isStep(int step) {
        return step >= 0 && step < now.valley.steps;
    }

    private boolean isHouse(int house) {
        return house >= 0 && house < now.valley.houses;
    }

    private boolean isFree(int house) {
        return isHouse(house) && (now.ground.busy >> house & 1) == 0;
    }

    private static boolean isWithin(int n, int least, int most) {
        return n >= least && n <= most;
    }

    /** The bytes fed, and the reading of them: one token stands at a time, and the first FAULT is kept. */
    private static final class Tape {
        static final int MOST = 400;
        static final int FAULT_BYTE = 0;
        static final int FAULT_NUMBER = 1;
        static final int FAULT_DEEP = 2;
        static final int FAULT_PARTS = 3;
        static final int FAULT_CLAUSE = 4;
        private static final int AT_END = 0;
        private static final int AT_WORD = 1;
        private static final int AT_DIGITS = 2;
        private static final int AT_SIGN = 3;
        private static final int DIGITS_MOST = 5;

        final int[] bytes = new int[MOST];
        int length;
        int fault;
        private int token;
        private int first;
        private int behind;

        void put(int number) {
            for (int shift = 24; shift >= 0 && length < MOST; shift -= 8) {
                bytes[length] = number >> shift & 255;
                length++;
            }
        }

        void open() {
            fault = 0;
            behind = 0;
            advance();
        }

        void fail(int what) {
            if (fault == 0) {
                fault = 1 + 8 * first + what;
            }
        }

        boolean isWell() {
            return fault == 0;
        }

        void advance() {
            first = behind;
            while (first < length && bytes[first] == ' ') {
                first++;
            }
            behind = first + 1;
            if (first >= length) {
                token = AT_END;
                behind = first;
            } else if (isLetter(first)) {
                token = AT_WORD;
                while (behind < length && isLetter(behind)) {
                    behind++;
                }
            } else if (isDigit(first)) {
                token = AT_DIGITS;
                while (behind < length && isDigit(behind)) {
                    behind++;
                }
            } else {
                token = AT_SIGN;
                boolean angle = bytes[first] == '<' || bytes[first] == '>';
                if (angle && behind < length && bytes[behind] == '=') {
                    behind++;
                }
            }
        }

        private boolean isLetter(int place) {
            return bytes[place] >= 'a' && bytes[place] <= 'z';
        }

        private boolean isDigit(int place) {
            return bytes[place] >= '0' && bytes[place] <= '9';
        }

        boolean isDigits() {
            return token == AT_DIGITS;
        }

        boolean isSign(char sign) {
            return token == AT_SIGN && behind == first + 1 && bytes[first] == sign;
        }

        /** Which of these signs of one byte stands here. */
        int signIn(String signs) {
            for (int i = 0; i < signs.length(); i++) {
                if (isSign(signs.charAt(i))) {
                    return i;
                }
            }
            return NONE;
        }

        /** Which of the five stands here: 0 to 4 for less, at most, equal, at least, more. */
        int comparison() {
            int plain = signIn("<=>");
            if (plain != NONE) {
                return 2 * plain;
            }
            if (token != AT_SIGN || behind != first + 2) {
                return NONE;
            }
            return bytes[first] == '<' ? 1 : 3;
        }

        /** Which of these words, with one blank between each two, stands here. */
        int wordIn(String words) {
            int index = 0;
            int at = first;
            boolean same = true;
            for (int i = 0; i <= words.length() && token == AT_WORD; i++) {
                boolean ends = i == words.length() || words.charAt(i) == ' ';
                if (ends && same && at == behind) {
                    return index;
                }
                if (ends) {
                    index++;
                    at = first;
                    same = true;
                } else {
                    same = same && at < behind && words.charAt(i) == bytes[at];
                    at++;
                }
            }
            return NONE;
        }

        boolean isWord(String word) {
            return wordIn(word) == 0;
        }

        /** What the digits here tell; NONE if they are too many. */
        int digits() {
            if (behind - first > DIGITS_MOST) {
                return NONE;
            }
            int number = 0;
            for (int i = first; i < behind; i++) {
                number = 10 * number + bytes[i] - '0';
            }
            return number;
        }

        /** The NUMBER here, if it lies in these bounds and is not the one left out; else a FAULT. */
        int number(int least, int most, int leftOut) {
            if (!isDigits()) {
                fail(FAULT_BYTE);
                return NONE;
            }
            int number = digits();
            if (number == NONE || number < least || number > most || number == leftOut) {
                fail(FAULT_NUMBER);
                return NONE;
            }
            advance();
            return number;
        }

        /** Goes behind the sign between two CLAUSES; false at the end, or with a FAULT. */
        boolean goesOn() {
            if (!isWell() || token == AT_END) {
                return false;
            }
            if (!isSign(';')) {
                fail(FAULT_BYTE);
                return false;
            }
            advance();
            return true;
        }
    }

    /** Reads the TAPE as a VALLEY. */
    private static final class ValleyReader {
        private static final int CLAUSES_MOST = 40;
        private static final String KINDS = "valley step house path wall need";
        private static final int KIND_VALLEY = 0;
        private static final int KIND_STEP = 1;
        private static final int KIND_HOUSE = 2;
        private static final int KIND_PATH = 3;
        private static final int KIND_WALL = 4;

        private final Tape tape;
        private final Valley blank = new Valley();
        private final Valley told = new Valley();

        ValleyReader(Tape tape) {
            this.tape = tape;
        }

        /** The VALLEY, which is good until the next reading; null with a FAULT. */
        Valley readValley() {
            told.copyFrom(blank);
            told.told = true;
            tape.open();
            boolean more = true;
            for (int clause = 0; more && clause <= CLAUSES_MOST; clause++) {
                readClause(clause);
                more = tape.goesOn();
            }
            return tape.isWell() ? told : null;
        }

        private void readClause(int clause) {
            int kind = tape.wordIn(KINDS);
            if (kind == NONE) {
                tape.fail(Tape.FAULT_BYTE);
                return;
            }
            if (!mayStand(kind, clause)) {
                tape.fail(Tape.FAULT_CLAUSE);
                return;
            }
            tape.advance();
            switch (kind) {
                case KIND_VALLEY:
                    readMeasures();
                    break;
                case KIND_STEP:
                    readStep();
                    break;
                case KIND_HOUSE:
                    readHouse();
                    break;
                case KIND_PATH:
                    readPath();
                    break;
                case KIND_WALL:
                    readWall();
                    break;
                default:
                    readNeed();
                    break;
            }
        }

        private boolean mayStand(int kind, int clause) {
            if (clause >= CLAUSES_MOST || (kind == KIND_VALLEY) != (clause == 0)) {
                return false;
            }
            if (kind == KIND_STEP) {
                return told.steps < STEPS_MOST;
            }
            return kind != KIND_HOUSE || told.houses < HOUSES_MOST;
        }

        private void readMeasures() {
            told.fall = tape.number(1, 9, NONE);
            if (tape.isWell()) {
                told.deep = tape.number(1, 30, NONE);
            }
        }

        private void readStep() {
            int snow = tape.number(0, 99, NONE);
            if (tape.isWell() && told.steps < STEPS_MOST) {
                told.first.snow[told.steps] = snow;
                told.steps++;
            }
        }

        private int readToldStep(int leftOut) {
            return tape.number(0, told.steps - 1, leftOut);
        }

        private void readHouse() {
            int own = readToldStep(NONE);
            if (!tape.isWell()) {
                return;
            }
            int strength = tape.number(1, 99, NONE);
            if (tape.isWell() && told.houses < HOUSES_MOST) {
                told.own[told.houses] = own;
                told.strength[told.houses] = strength;
                told.houses++;
            }
        }

        private void readPath() {
            int one = readToldStep(NONE);
            if (!tape.isWell()) {
                return;
            }
            int other = readToldStep(one);
            if (tape.isWell()) {
                told.beside[one] |= 1 << other;
                told.beside[other] |= 1 << one;
            }
        }

        private void readWall() {
            int from = readToldStep(NONE);
            if (!tape.isWell()) {
                return;
            }
            int onto = readToldStep(from);
            if (tape.isWell()) {
                told.first.wall[from] = onto;
            }
        }

        private void readNeed() {
            int day = tape.number(0, Valley.NEED_LAST, NONE);
            if (!tape.isWell()) {
                return;
            }
            int step = readToldStep(NONE);
            if (tape.isWell()) {
                told.needs[step] |= 1 << day;
            }
        }
    }

    /** Reads the TAPE as a RULE, into a code in which each deed stands behind what it works on. */
    private static final class RuleReader {
        private static final int CLAUSES_MOST = 12;
        private static final int DEEPEST = 10;
        private static final int PARTS_MOST = 60;
        private static final String WORDS =
            "house step own snow strength swept before closed needed next beside day";

        private final Tape tape;
        // No token makes more than one piece of code, so a full TAPE is enough room.
        private final int[] code = new int[Tape.MOST];
        private final int[] starts = new int[2 * CLAUSES_MOST + 1];
        private int length;
        private int clauses;
        private int parts;

        RuleReader(Tape tape) {
            this.tape = tape;
        }

        /** The RULE; null with a FAULT. */
        Rule readRule() {
            length = 0;
            clauses = 0;
            parts = 0;
            tape.open();
            boolean more = true;
            for (int clause = 0; more && clause <= CLAUSES_MOST; clause++) {
                if (begins()) {
                    tape.advance();
                    readSum();
                    starts[2 * clauses + 1] = length;
                    if (tape.isWell() && tape.isWord("if")) {
                        tape.advance();
                        readTest(0);
                    }
                    clauses++;
                    starts[2 * clauses] = length;
                }
                more = tape.goesOn();
            }
            return tape.isWell() ? new Rule(code, length, starts, clauses) : null;
        }

        /** Whether a CLAUSE stands here, and one more may; else a FAULT. */
        private boolean begins() {
            if (!tape.isWord("sweep")) {
                tape.fail(Tape.FAULT_BYTE);
            } else if (clauses >= CLAUSES_MOST) {
                tape.fail(Tape.FAULT_CLAUSE);
            }
            return tape.isWell();
        }

        /** An "or" waits until its PART is whole, an "and" only for its FACT. */
        private void readTest(int depth) {
            boolean or = false;
            boolean and = false;
            for (int more = 0; more < Tape.MOST && tape.isWell(); more++) {
                readFact(depth);
                if (and) {
                    emit(Rule.AND);
                }
                and = tape.isWord("and");
                if (!and) {
                    if (or) {
                        emit(Rule.OR);
                    }
                    or = tape.isWord("or");
                    if (!or) {
                        return;
                    }
                }
                tape.advance();
            }
        }

        private void readFact(int depth) {
            boolean not = tape.isWord("not");
            if (not || tape.isSign('[')) {
                readWithin(depth, not);
                return;
            }
            readSum();
            if (!tape.isWell()) {
                return;
            }
            int sign = tape.comparison();
            if (sign == NONE) {
                tape.fail(Tape.FAULT_BYTE);
            }
            countPart();
            if (tape.isWell()) {
                tape.advance();
                readSum();
                emit(Rule.LESS - sign);
            }
        }

        private void readWithin(int depth, boolean not) {
            if (depth >= DEEPEST) {
                tape.fail(Tape.FAULT_DEEP);
                return;
            }
            tape.advance();
            if (not) {
                readFact(depth + 1);
                emit(Rule.NOT);
                return;
            }
            readTest(depth + 1);
            if (tape.isWell() && tape.isSign(']')) {
                tape.advance();
            } else {
                tape.fail(Tape.FAULT_BYTE);
            }
        }

        /** A + or - waits until its TERM is whole, a deed of a TERM only for its VALUE. */
        private void readSum() {
            int waiting = 0;
            int deed = 0;
            for (int more = 0; more < Tape.MOST && tape.isWell(); more++) {
                readValue();
                if (deed != 0) {
                    emit(deed);
                }
                deed = Rule.PLUS - tape.signIn("+-*/%");
                boolean inTerm = deed < Rule.MINUS;
                if (!inTerm && waiting != 0) {
                    emit(waiting);
                }
                if (deed > Rule.PLUS) {
                    return;
                }
                if (!inTerm) {
                    waiting = deed;
                    deed = 0;
                }
                tape.advance();
            }
        }

        private void readValue() {
            int piece;
            if (tape.isDigits()) {
                piece = tape.digits();
                if (piece == NONE) {
                    tape.fail(Tape.FAULT_NUMBER);
                }
            } else {
                int word = tape.wordIn(WORDS);
                piece = Rule.WORD - word;
                if (word == NONE) {
                    tape.fail(Tape.FAULT_BYTE);
                }
            }
            countPart();
            if (tape.isWell()) {
                emit(piece);
                tape.advance();
            }
        }

        private void countPart() {
            if (parts >= PARTS_MOST) {
                tape.fail(Tape.FAULT_PARTS);
            }
            parts++;
        }

        private void emit(int piece) {
            if (length < code.length) {
                code[length] = piece;
                length++;
            }
        }
    }

    /** A RULE: per CLAUSE the code of its SUM and that of its TEST, which is empty without one. */
    private static final class Rule {
        // Pieces of code: a NUMBER is itself, all else lies below 0.
        static final int PLUS = -1;
        static final int MINUS = -2;
        static final int TIMES = -3;
        static final int OVER = -4;
        static final int REST = -5;
        static final int LESS = -6;
        static final int AT_MOST = -7;
        static final int EQUAL = -8;
        static final int AT_LEAST = -9;
        static final int MORE = -10;
        static final int AND = -11;
        static final int OR = -12;
        static final int NOT = -13;
        static final int WORD = -14;

        static final int HOUSE = 0;
        static final int STEP = 1;
        static final int OWN = 2;
        static final int SNOW = 3;
        static final int STRENGTH = 4;
        static final int SWEPT = 5;
        static final int BEFORE = 6;
        static final int CLOSED = 7;
        static final int NEEDED = 8;
        static final int NEXT = 9;
        static final int BESIDE = 10;
        static final int DAY = 11;
        static final int WORD_COUNT = 12;

        // Each bracket holds back at most two truths, and a FACT four numbers: 26 in all.
        static final int STACK = 32;

        private final int[] code;
        private final int[] starts;
        private final int clauses;

        Rule(int[] code, int length, int[] starts, int clauses) {
            this.code = new int[length];
            this.starts = new int[2 * clauses + 1];
            this.clauses = clauses;
            System.arraycopy(code, 0, this.code, 0, length);
            System.arraycopy(starts, 0, this.starts, 0, 2 * clauses + 1);
        }

        /** What the first CLAUSE whose TEST holds tells; 0 if none does. */
        long worth(long[] words, long[] stack) {
            for (int clause = 0; clause < clauses; clause++) {
                int sum = starts[2 * clause];
                int test = starts[2 * clause + 1];
                int behind = starts[2 * clause + 2];
                if (test == behind || run(test, behind, words, stack) != 0) {
                    return run(sum, test, words, stack);
                }
            }
            return 0;
        }

        private long run(int from, int to, long[] words, long[] stack) {
            int top = 0;
            for (int i = from; i < to; i++) {
                int piece = code[i];
                if (piece >= 0 || piece <= WORD) {
                    int word = WORD - piece;
                    if (top < stack.length && word < words.length) {
                        stack[top] = piece >= 0 ? piece : words[word];
                        top++;
                    }
                } else if (piece == NOT) {
                    if (top > 0) {
                        stack[top - 1] = 1 - stack[top - 1];
                    }
                } else if (top > 1) {
                    top--;
                    stack[top - 1] = join(piece, stack[top - 1], stack[top]);
                }
            }
            return top > 0 ? stack[0] : 0;
        }

        private static long join(int piece, long a, long b) {
            switch (piece) {
                case PLUS:
                    return a + b;
                case MINUS:
                    return a - b;
                case TIMES:
                    return a * b;
                case OVER:
                    return b == 0 ? 0 : a / b;
                case REST:
                    return b == 0 ? 0 : a % b;
                case LESS:
                    return a < b ? 1 : 0;
                case AT_MOST:
                    return a <= b ? 1 : 0;
                case EQUAL:
                    return a == b ? 1 : 0;
                case AT_LEAST:
                    return a >= b ? 1 : 0;
                case MORE:
                    return a > b ? 1 : 0;
                case AND:
                    return a & b;
                default:
                    return a | b;
            }
        }
    }

    /** What a text told; no ACT changes it. */
    private static final class Valley {
        static final int NEED_LAST = 30;
        static final int NEVER = 99;

        boolean told;
        int fall;
        int deep;
        int steps;
        int houses;
        final int[] own = new int[HOUSES_MOST];
        final int[] strength = new int[HOUSES_MOST];
        final int[] beside = new int[STEPS_MOST];
        final int[] needs = new int[STEPS_MOST];
        final Ground first = new Ground();

        void copyFrom(Valley other) {
            told = other.told;
            fall = other.fall;
            deep = other.deep;
            steps = other.steps;
            houses = other.houses;
            System.arraycopy(other.own, 0, own, 0, HOUSES_MOST);
            System.arraycopy(other.strength, 0, strength, 0, HOUSES_MOST);
            System.arraycopy(other.beside, 0, beside, 0, STEPS_MOST);
            System.arraycopy(other.needs, 0, needs, 0, STEPS_MOST);
            first.copyFrom(other.first);
        }

        boolean isNeeded(int step, int day) {
            return day <= NEED_LAST && (needs[step] >> day & 1) == 1;
        }

        int neededBits(int day) {
            int bits = 0;
            for (int step = 0; step < steps; step++) {
                if (isNeeded(step, day)) {
                    bits |= 1 << step;
                }
            }
            return bits;
        }

        int daysToNeed(int step, int day) {
            int later = day <= NEED_LAST ? needs[step] >> day : 0;
            return later == 0 ? NEVER : Integer.bitCount((later & -later) - 1);
        }

        int closedBits(Ground ground) {
            int bits = 0;
            for (int step = 0; step < steps; step++) {
                if (ground.snow[step] >= deep) {
                    bits |= 1 << step;
                }
            }
            return bits;
        }
    }

    /** How all lies: just what ACTS change. */
    private static final class Ground {
        final int[] snow = new int[STEPS_MOST];
        final int[] wall = new int[STEPS_MOST];
        int swept;
        int before;
        int busy;
        int day;

        Ground() {
            for (int step = 0; step < STEPS_MOST; step++) {
                wall[step] = NONE;
            }
        }

        void copyFrom(Ground other) {
            System.arraycopy(other.snow, 0, snow, 0, STEPS_MOST);
            System.arraycopy(other.wall, 0, wall, 0, STEPS_MOST);
            swept = other.swept;
            before = other.before;
            busy = other.busy;
            day = other.day;
        }

        void lay(int step, int more) {
            snow[step] = Math.min(SNOW_MOST, snow[step] + more);
        }

        void halve() {
            for (int step = 0; step < STEPS_MOST; step++) {
                snow[step] /= 2;
            }
        }

        int snowOfAll() {
            int sum = 0;
            for (int step = 0; step < STEPS_MOST; step++) {
                sum += snow[step];
            }
            return sum;
        }
    }

    /** All that an IMAGE holds. */
    private static final class World {
        final Valley valley = new Valley();
        final Ground ground = new Ground();
        int inForce = NONE;
        int drawn;
        int notes;
        final int[] noteDay = new int[NOTES_MOST];
        final int[] noteStep = new int[NOTES_MOST];
        final int[] noteSnow = new int[NOTES_MOST];

        void settle(Valley told) {
            valley.copyFrom(told);
            ground.copyFrom(told.first);
            notes = 0;
        }

        void copyFrom(World other) {
            valley.copyFrom(other.valley);
            ground.copyFrom(other.ground);
            inForce = other.inForce;
            drawn = other.drawn;
            notes = other.notes;
            System.arraycopy(other.noteDay, 0, noteDay, 0, NOTES_MOST);
            System.arraycopy(other.noteStep, 0, noteStep, 0, NOTES_MOST);
            System.arraycopy(other.noteSnow, 0, noteSnow, 0, NOTES_MOST);
        }

        int addNote(int n, int step, int snow) {
            if (notes < NOTES_MOST) {
                noteDay[notes] = n;
                noteStep[notes] = step;
                noteSnow[notes] = snow;
                notes++;
            }
            return notes;
        }

        int closedBits() {
            return valley.closedBits(ground);
        }
    }

    /** How all lay ahead of the last ACTS, in a row that goes round. */
    private static final class Acts {
        private static final int MOST = 20;

        private final Ground[] kept = new Ground[MOST];
        private int next;
        int count;

        Acts() {
            for (int i = 0; i < MOST; i++) {
                kept[i] = new Ground();
            }
        }

        void keep(Ground ground) {
            kept[next].copyFrom(ground);
            next = next + 1 < MOST ? next + 1 : 0;
            count = Math.min(MOST, count + 1);
        }

        void forget() {
            count = 0;
        }

        int takeBack(Ground ground) {
            if (count == 0) {
                return NONE;
            }
            next = next > 0 ? next - 1 : MOST - 1;
            ground.copyFrom(kept[next]);
            count--;
            return count;
        }
    }

    /** DAYS that go on, on a ground of their own. */
    private static final class Winter {
        final Ground ground = new Ground();
        final int[] strength = new int[HOUSES_MOST];
        final int[] thrown = new int[STEPS_MOST];
        final int[] fallen = new int[STEPS_MOST];
        private final long[] words = new long[Rule.WORD_COUNT];
        private final long[] stack = new long[Rule.STACK];
        private final Valley valley;
        private Rule rule;

        Winter(Valley valley) {
            this.valley = valley;
        }

        /** From here on; rule is null if none is IN FORCE. */
        void begin(Rule rule, Ground from) {
            this.rule = rule;
            ground.copyFrom(from);
            System.arraycopy(valley.strength, 0, strength, 0, HOUSES_MOST);
            for (int step = 0; step < STEPS_MOST; step++) {
                thrown[step] = 0;
                fallen[step] = 0;
            }
        }

        int closedBits() {
            return valley.closedBits(ground);
        }

        int sweepBy(int house, int step) {
            int taken = Math.min(strength[house], ground.snow[step]);
            ground.snow[step] -= taken;
            ground.swept |= 1 << step;
            ground.busy |= 1 << house;
            int behind = ground.wall[step];
            if (behind >= 0 && behind < STEPS_MOST) {
                thrown[behind] += taken;
                ground.lay(behind, taken);
            }
            return taken;
        }

        /** A DAY and its night: STEPS that were swept, as bits. */
        int passDay() {
            for (int house = 0; house < valley.houses; house++) {
                if ((ground.busy >> house & 1) == 0) {
                    int step = choice(house);
                    if (step != NONE) {
                        sweepBy(house, step);
                    }
                }
            }
            return passNight();
        }

        int passNight() {
            int swept = ground.swept;
            for (int step = 0; step < valley.steps; step++) {
                if ((swept >> step & 1) == 1) {
                    fallen[step] += valley.fall;
                    ground.lay(step, valley.fall);
                }
            }
            ground.before = swept;
            ground.swept = 0;
            ground.busy = 0;
            ground.day++;
            return swept;
        }

        private int choice(int house) {
            int closed = closedBits();
            if (rule == null) {
                int own = valley.own[house];
                return (closed >> own & 1) == 1 ? own : NONE;
            }
            int chosen = NONE;
            long most = 0;
            for (int step = 0; step < valley.steps; step++) {
                if (ground.snow[step] > 0) {
                    lookAt(house, step, closed);
                    long worth = rule.worth(words, stack);
                    if (worth > most) {
                        most = worth;
                        chosen = step;
                    }
                }
            }
            return chosen;
        }

        private void lookAt(int house, int step, int closed) {
            words[Rule.HOUSE] = house;
            words[Rule.STEP] = step;
            words[Rule.OWN] = valley.own[house] == step ? 1 : 0;
            words[Rule.SNOW] = ground.snow[step];
            words[Rule.STRENGTH] = strength[house];
            words[Rule.SWEPT] = ground.swept >> step & 1;
            words[Rule.BEFORE] = ground.before >> step & 1;
            words[Rule.CLOSED] = Integer.bitCount(closed);
            words[Rule.NEEDED] = valley.isNeeded(step, ground.day) ? 1 : 0;
            words[Rule.NEXT] = valley.daysToNeed(step, ground.day);
            words[Rule.BESIDE] = Integer.bitCount(closed & valley.beside[step]);
            words[Rule.DAY] = ground.day;
        }
    }

    /** What is asked of DAYS that go on by RULES. */
    private static final class Forecast {
        private static final int CLOSES_DAYS = 100;
        private static final int RING_DAYS = 60;
        private static final int STRENGTH_MOST = 99;
        // Of RULES and of none: none stands first.
        private static final int GUESSES = RULES_MOST + 1;

        private final World now;
        private final Rule[] rules;
        private final Winter winter;
        private final int[] rows = new int[(RING_DAYS + 1) * STEPS_MOST];
        private final boolean[] right = new boolean[GUESSES];

        Forecast(World now, Rule[] rules, Winter winter) {
            this.now = now;
            this.rules = rules;
            this.winter = winter;
        }

        private Rule ruleAt(int number) {
            return number >= 0 && number < rules.length ? rules[number] : null;
        }

        void start() {
            winter.begin(ruleAt(now.inForce), now.ground);
        }

        void go(int n) {
            start();
            for (int i = 0; i < n; i++) {
                winter.passDay();
            }
        }

        int snowAfter(int step, int n) {
            go(n);
            return winter.ground.snow[step];
        }

        int closedAfter(int n) {
            go(n);
            return Integer.bitCount(winter.closedBits());
        }

        int openThrough(int n) {
            start();
            int closed = winter.closedBits();
            for (int i = 0; i < n; i++) {
                winter.passDay();
                closed |= winter.closedBits();
            }
            return (1 << now.valley.steps) - 1 & ~closed;
        }

        int firstClosed(int step) {
            start();
            for (int i = 0; i < CLOSES_DAYS; i++) {
                if ((winter.closedBits() >> step & 1) == 1) {
                    return winter.ground.day;
                }
                winter.passDay();
            }
            return NO_SUCH;
        }

        int ringOf(boolean later) {
            start();
            for (int i = 0; i <= RING_DAYS; i++) {
                System.arraycopy(winter.ground.snow, 0, rows, i * STEPS_MOST, STEPS_MOST);
                winter.passDay();
            }
            for (int i = 0; i < RING_DAYS; i++) {
                for (int j = i + 1; j <= RING_DAYS; j++) {
                    if (isSameRow(i, j)) {
                        return later ? j - i : now.ground.day + i;
                    }
                }
            }
            return NO_SUCH;
        }

        private boolean isSameRow(int i, int j) {
            for (int step = 0; step < now.valley.steps; step++) {
                if (rows[i * STEPS_MOST + step] != rows[j * STEPS_MOST + step]) {
                    return false;
                }
            }
            return true;
        }

        int bestSweep(int house, int n, boolean howMany) {
            int chosen = NONE;
            int fewest = closedBy(house, NONE, n);
            for (int step = 0; step < now.valley.steps; step++) {
                int closed = now.ground.snow[step] > 0 ? closedBy(house, step, n) : fewest;
                if (closed < fewest) {
                    fewest = closed;
                    chosen = step;
                }
            }
            return howMany ? fewest : chosen;
        }

        private int closedBy(int house, int step, int n) {
            start();
            if (step != NONE) {
                winter.sweepBy(house, step);
            }
            for (int i = 0; i < n; i++) {
                winter.passDay();
            }
            return Integer.bitCount(winter.closedBits());
        }

        int leastStrength(int house, int n) {
            for (int strength = 1; strength <= STRENGTH_MOST; strength++) {
                if (keepsOpen(house, strength, n)) {
                    return strength;
                }
            }
            return NO_SUCH;
        }

        private boolean keepsOpen(int house, int strength, int n) {
            start();
            winter.strength[house] = strength;
            int own = now.valley.own[house];
            for (int i = 0; i < n; i++) {
                winter.passDay();
                if (winter.ground.snow[own] >= now.valley.deep) {
                    return false;
                }
            }
            return true;
        }

        /** Which of the RULES and of none agree with the NOTES; their rows are those of the n-th DAY. */
        void judge(int ruleCount, int n) {
            for (int guess = 0; guess < GUESSES; guess++) {
                right[guess] = guess <= ruleCount && agrees(guess, n);
            }
        }

        private boolean agrees(int guess, int n) {
            winter.begin(ruleAt(guess - 1), now.valley.first);
            int last = lastNoted(n);
            for (int day = 0; day <= last; day++) {
                if (!isAsNoted(day)) {
                    return false;
                }
                if (day == n) {
                    System.arraycopy(winter.ground.snow, 0, rows, guess * STEPS_MOST, STEPS_MOST);
                }
                winter.passDay();
            }
            return true;
        }

        private int lastNoted(int n) {
            int last = n;
            for (int i = 0; i < now.notes; i++) {
                last = Math.max(last, now.noteDay[i]);
            }
            return last;
        }

        private boolean isAsNoted(int day) {
            for (int i = 0; i < now.notes; i++) {
                if (now.noteDay[i] == day && winter.ground.snow[now.noteStep[i]] != now.noteSnow[i]) {
                    return false;
                }
            }
            return true;
        }

        int rightCount() {
            int count = 0;
            for (int guess = 0; guess < GUESSES; guess++) {
                count += right[guess] ? 1 : 0;
            }
            return count;
        }

        int firstRight() {
            for (int guess = 0; guess < GUESSES; guess++) {
                if (right[guess]) {
                    return guess - 1;
                }
            }
            return NO_SUCH;
        }

        int partingStep(boolean howMany) {
            int chosen = NO_SUCH;
            int fewest = GUESSES + 1;
            for (int step = 0; step < now.valley.steps && rightCount() > 0; step++) {
                int alike = mostAlike(step);
                if (alike < fewest) {
                    fewest = alike;
                    chosen = step;
                }
            }
            return chosen != NO_SUCH && howMany ? fewest : chosen;
        }

        private int mostAlike(int step) {
            int most = 0;
            for (int guess = 0; guess < GUESSES; guess++) {
                int alike = 0;
                for (int other = 0; other < GUESSES && right[guess]; other++) {
                    if (right[other] && rows[other * STEPS_MOST + step] == rows[guess * STEPS_MOST + step]) {
                        alike++;
                    }
                }
                most = Math.max(most, alike);
            }
            return most;
        }

        int afterStorms(int m, int n, int p, boolean howMany) {
            int kept = now.drawn;
            int sum = 0;
            for (int i = 0; i < m; i++) {
                start();
                for (int j = 0; j < n; j++) {
                    blow(p);
                    winter.passDay();
                }
                sum += howMany ? Integer.bitCount(winter.closedBits()) : winter.ground.snowOfAll();
            }
            now.drawn = kept;
            return sum;
        }

        private void blow(int p) {
            boolean comes = draw() % 100 < p;
            int steps = now.valley.steps;
            if (comes && steps > 0) {
                winter.ground.lay(draw() % steps, now.valley.fall);
            }
        }

        private int draw() {
            now.drawn = (int) (now.drawn * 1103515245L + 12345L & 2147483647L);
            return now.drawn / 65536;
        }
    }

    /** What is asked without RULES. */
    private static final class Plans {
        private static final int SETS_MOST = 1 << HOUSES_MOST;
        // One CLOSED STEP weighs more than all STEPS of a way, so the sum orders by both.
        private static final int CLOSED_WEIGHT = 16;
        private static final int FAR = 1000000;

        private final World now;
        private final Winter winter;
        private final int[] laid = new int[STEPS_MOST];
        private final int[] cost = new int[STEPS_MOST];
        private final int[] gain = new int[SETS_MOST * HOUSES_MOST];

        Plans(World now, Winter winter) {
            this.now = now;
            this.winter = winter;
        }

        int fewestSweepings(int step, int n) {
            // Sweeping on each DAY always does.
            int chosen = (1 << n) - 1;
            for (int row = 0; row < 1 << n; row++) {
                if (Integer.bitCount(row) < Integer.bitCount(chosen) && isOpenByNeed(step, n, row)) {
                    chosen = row;
                }
            }
            return chosen;
        }

        private boolean isOpenByNeed(int step, int n, int row) {
            int snow = now.ground.snow[step];
            for (int i = 0; i < n; i++) {
                boolean swept = (row >> i & 1) == 1;
                if (swept) {
                    snow = 0;
                }
                if (snow >= now.valley.deep && now.valley.isNeeded(step, now.ground.day + i)) {
                    return false;
                }
                if (swept) {
                    snow = now.valley.fall;
                }
            }
            return true;
        }

        int fewestSwept(int wanted) {
            int chosen = NO_SUCH;
            int fewest = STEPS_MOST + 1;
            for (int set = 0; set < 1 << now.valley.steps; set++) {
                if (Integer.bitCount(set) < fewest && closedBySweeping(set) == wanted) {
                    fewest = Integer.bitCount(set);
                    chosen = set;
                }
            }
            return chosen;
        }

        /** STEPS that are CLOSED behind the night, as bits; NO_SUCH if one of the set has no SNOW. */
        private int closedBySweeping(int set) {
            int steps = now.valley.steps;
            for (int step = 0; step < steps; step++) {
                boolean swept = (set >> step & 1) == 1;
                if (swept && now.ground.snow[step] == 0) {
                    return NO_SUCH;
                }
                laid[step] = swept ? 0 : now.ground.snow[step];
            }
            for (int step = 0; step < steps; step++) {
                int behind = now.ground.wall[step];
                if ((set >> step & 1) == 1 && behind != NONE) {
                    laid[behind] += now.ground.snow[step];
                }
            }
            int fallen = set | now.ground.swept;
            int closed = 0;
            for (int step = 0; step < steps; step++) {
                // DEEP lies far below what 999 cuts off.
                int snow = laid[step] + (fallen >> step & 1) * now.valley.fall;
                closed |= snow >= now.valley.deep ? 1 << step : 0;
            }
            return closed;
        }

        int wayOf(int from, int to, int what) {
            spreadCosts(to);
            if (cost[from] >= FAR) {
                return NO_SUCH;
            }
            if (what == 0) {
                return cost[from] / CLOSED_WEIGHT;
            }
            if (what == 1) {
                return cost[from] % CLOSED_WEIGHT;
            }
            return from == to ? NONE : nextOnWay(from);
        }

        private int weight(int step) {
            return 1 + (now.closedBits() >> step & 1) * CLOSED_WEIGHT;
        }

        private void spreadCosts(int to) {
            int steps = now.valley.steps;
            for (int step = 0; step < steps; step++) {
                cost[step] = step == to ? weight(step) : FAR;
            }
            for (int round = 0; round < steps; round++) {
                for (int step = 0; step < steps; step++) {
                    cost[step] = Math.min(cost[step], weight(step) + cheapestBeside(step));
                }
            }
        }

        private int cheapestBeside(int step) {
            int least = FAR;
            for (int other = 0; other < now.valley.steps; other++) {
                if ((now.valley.beside[step] >> other & 1) == 1) {
                    least = Math.min(least, cost[other]);
                }
            }
            return least;
        }

        private int nextOnWay(int from) {
            int rest = cost[from] - weight(from);
            for (int step = 0; step < now.valley.steps; step++) {
                if ((now.valley.beside[from] >> step & 1) == 1 && cost[step] == rest) {
                    return step;
                }
            }
            return NONE;
        }

        private int setCount() {
            return 1 << now.valley.houses;
        }

        /** What each HOUSE has by each set. */
        void weighSets(int n) {
            for (int set = 0; set < setCount(); set++) {
                for (int house = 0; house < HOUSES_MOST; house++) {
                    gain[set * HOUSES_MOST + house] = 0;
                }
                winter.begin(null, now.ground);
                for (int i = 0; i < n; i++) {
                    sweepAsAgreed(set);
                    winter.passNight();
                    addOpen(set);
                }
            }
        }

        private void sweepAsAgreed(int set) {
            for (int house = 0; house < now.valley.houses; house++) {
                int own = now.valley.own[house];
                if ((set >> house & 1) == 1 && winter.ground.snow[own] > 0) {
                    winter.sweepBy(house, own);
                    gain[set * HOUSES_MOST + house]--;
                }
            }
        }

        private void addOpen(int set) {
            int closed = winter.closedBits();
            for (int house = 0; house < now.valley.houses; house++) {
                if ((closed >> now.valley.own[house] & 1) == 0) {
                    gain[set * HOUSES_MOST + house] += 2;
                }
            }
        }

        private boolean isPact(int set) {
            for (int house = 0; house < now.valley.houses; house++) {
                int other = set ^ 1 << house;
                if (gain[other * HOUSES_MOST + house] > gain[set * HOUSES_MOST + house]) {
                    return false;
                }
            }
            return true;
        }

        int pactCount() {
            int count = 0;
            for (int set = 0; set < setCount(); set++) {
                count += isPact(set) ? 1 : 0;
            }
            return count;
        }

        int leastPact() {
            for (int set = 0; set < setCount(); set++) {
                if (isPact(set)) {
                    return set;
                }
            }
            return NO_SUCH;
        }

        /** By how much all have more in the best of all sets than in the worst. */
        int spread() {
            int most = sumOf(0);
            int least = most;
            for (int set = 1; set < setCount(); set++) {
                int sum = sumOf(set);
                most = Math.max(most, sum);
                least = Math.min(least, sum);
            }
            return most - least;
        }

        private int sumOf(int set) {
            int sum = 0;
            for (int house = 0; house < now.valley.houses; house++) {
                sum += gain[set * HOUSES_MOST + house];
            }
            return sum;
        }
    }
}
