import java.util.function.IntSupplier;

/** Each promise by hand: ordinary inputs, the edges that the document names, and wrong inputs. */
public final class PromisesTest {
    private static final String VILLAGE = "valley 3 5;step 7;step 2;step 0;house 0 10;house 1 4;path 0 1;path 1 2;"
        + "wall 0 1;need 1 0;need 2 0";
    private static int wrong;
    private static int asked;
    private static int promise;

    private SweptSnow x = new SweptSnow();

    public static void main(String[] args) {
        PromisesTest t = new PromisesTest();
        t.newObject();
        t.tape();
        t.valleys();
        t.valleysApart();
        t.valleyFaults();
        t.rules();
        t.ruleFaults();
        t.words();
        t.arithmetic();
        t.tests();
        t.force();
        t.steps();
        t.houses();
        t.days();
        t.sweeping();
        t.tossing();
        t.pulling();
        t.thawing();
        t.undoing();
        t.ahead();
        t.stays();
        t.closes();
        t.ring();
        t.spare();
        t.figure();
        t.way();
        t.pacts();
        t.thrown();
        t.best();
        t.might();
        t.notes();
        t.ruled();
        t.look();
        t.draws();
        t.counts();
        t.images();
        t.imagesApart();
        System.out.println("PromisesTest: " + asked + " answers, " + wrong + " wrong");
        if (wrong != 0) {
            System.exit(1);
        }
    }

    private static void due(String call, int got, int want) {
        asked++;
        if (got != want) {
            wrong++;
            System.out.println("promise " + promise + ": " + call + " answered " + got + ", due is " + want);
        }
    }

    private static void all(String call, int want, IntSupplier... calls) {
        for (int i = 0; i < calls.length; i++) {
            due(call + " no. " + i, calls[i].getAsInt(), want);
        }
    }

    private void tell(String text) {
        x.end(0);
        for (int i = 0; i < text.length(); i += 20) {
            int[] five = new int[5];
            for (int j = 0; j < 20; j++) {
                five[j / 4] = five[j / 4] << 8 | (i + j < text.length() ? text.charAt(i + j) : '?');
            }
            x.feed(five[0], five[1], five[2], five[3], five[4]);
        }
        x.end(text.length());
    }

    private int valley(String text) {
        tell(text);
        return x.valley();
    }

    private int rule(String text) {
        tell(text);
        return x.rule();
    }

    private void fresh(String valley, String... rules) {
        x = new SweptSnow();
        valley(valley);
        for (String rule : rules) {
            x.force(rule(rule));
        }
    }

    private void snow(int... want) {
        for (int i = 0; i < want.length; i++) {
            due("step(" + i + ", 0)", x.step(i, 0), want[i]);
        }
    }

    private static String times(String text, int n) {
        return text.repeat(n);
    }

    private void newObject() {
        promise = 1;
        x = new SweptSnow();
        int[] want = {0, 0, 0, 0, 0, -1, 0, 0, 0, 0, 0, 0, 0, 0, 0};
        for (int i = 0; i < want.length; i++) {
            due("count(" + i + ")", x.count(i), want[i]);
        }
        all("without a valley", -1, () -> x.house(0, 0), () -> x.day(), () -> x.sweep(0, 0), () -> x.toss(0, 1),
            () -> x.pull(0), () -> x.thaw(), () -> x.undo(), () -> x.ahead(0, 0, 0), () -> x.ahead(0, 0, 1),
            () -> x.stays(1), () -> x.closes(0), () -> x.ring(0), () -> x.spare(0, 1, 0), () -> x.figure(0, 0),
            () -> x.pacts(1, 0), () -> x.thrownOn(0, 1, 0), () -> x.might(0, 1), () -> x.look(0, 0),
            () -> x.storms(1, 1, 0, 0), () -> x.back(0));
        all("without a valley", -2, () -> x.force(0), () -> x.step(0, 0), () -> x.best(0, 1, 0), () -> x.note(0, 0, 0));
        all("without a valley", -3, () -> x.way(0, 0, 0), () -> x.ruled(0));
    }

    private void tape() {
        promise = 2;
        x = new SweptSnow();
        due("feed", x.feed(0x76616c6c, 0x65792031, 0x20313b73, 0x74657020, 0x39203b20), 20);
        promise = 3;
        all("end", -1, () -> x.end(21), () -> x.end(-1));
        due("count(14)", x.count(14), 20);
        due("end", x.end(20), 20);
        due("end", x.end(17), 17);
        due("count(14)", x.count(14), 17);
        promise = 2;
        due("valley()", x.valley(), 1);
        due("step(0, 0)", x.step(0, 0), 9);
        for (int i = 1; i <= 20; i++) {
            due("feed", x.feed(-1, 0, 1, -2, 2), 20 * i);
        }
        all("feed", -1, () -> x.feed(0, 0, 0, 0, 0), () -> x.feed(-1, 0, 1, -2, 2));
        due("end", x.end(381), 381);
        due("feed", x.feed(0, 0, 0, 0, 0), -1);
        due("end", x.end(380), 380);
        due("feed", x.feed(0, 0, 0, 0, 0), 400);
        promise = 3;
        due("end", x.end(0), 0);
        due("end", x.end(1), -1);
    }

    private void valleys() {
        promise = 4;
        fresh(VILLAGE, "sweep 1");
        due("count(14)", x.count(14), 0);
        x.seed(5);
        x.toss(0, 1);
        x.note(0, 0, 7);
        x.day();
        due("valley()", valley(" valley1 30 ;step99;  step 00000;path 0 1;path 1 0;need 30 1;need 30 1;wall 1 0"), 2);
        int[] want = {1, 30, 2, 0, 1, 0, 0, 1, 0, 0, 99, 0, 0, 5, 0};
        for (int i = 0; i < want.length; i++) {
            due("count(" + i + ")", x.count(i), want[i]);
        }
        due("no steps", valley("valley 9 1"), 0);
        due("of a first one the last told", valley("valley 1 1;step 1;step 1;step 1;wall 0 1;wall 0 2"), 3);
        due("step(0, 3)", x.step(0, 3), 2);
        due("40 clauses", valley("valley 1 1;step 0" + times(";need 0 0", 38)), 1);
        due("8 steps, 4 houses", valley("valley 1 1" + times(";step 0", 8) + times(";house 7 99", 4)), 8);
        x.note(0, 0, 0);
        x.toss(0, 1);
        due("a fault", valley("valley 1 1;"), -3 - 8 * 11);
        all("all stays", 1, () -> x.count(0), () -> x.count(11), () -> x.count(12), () -> x.step(0, 0));
        due("the tape is empty then", x.count(14), 0);
    }

    private void valleyFault(String text, int place, int what) {
        due("valley() of " + text, valley(text), -2 - (1 + 8 * place + what));
    }

    /** Of a text nothing is left in the next one, whether it was a VALLEY or not. */
    private void valleysApart() {
        promise = 4;
        String full = "valley 9 30;step 9;step 8;step 7;house 2 99;path 0 1;path 1 2;wall 0 1;wall 1 2;need 0 0;need 3 1";
        for (String end : new String[] {"", ";", ";step 100"}) {
            x = new SweptSnow();
            due("a VALLEY or a FAULT", valley(full + end) < 0 ? 0 : x.count(2), end.isEmpty() ? 3 : 0);
            due("valley()", valley("valley 1 2;step 0;step 1;house 0 5"), 2);
            int[] want = {1, 2, 2, 1, 0, -1, 0, 0, 0, 0, 1, 0, 0, 0, 0};
            for (int i = 0; i < want.length; i++) {
                due("count(" + i + ")", x.count(i), want[i]);
            }
            all("no WALL", -1, () -> x.step(0, 3), () -> x.step(1, 3), () -> x.pull(0), () -> x.house(1, 0));
            all("nothing beside, not needed", 0, () -> x.step(0, 4), () -> x.step(1, 4), () -> x.step(0, 5));
            all("its STEPS alone", -2, () -> x.step(2, 0), () -> x.way(0, 1, 0), () -> x.note(0, 2, 0));
            due("house(0, 1)", x.house(0, 1), 5);
            rule("sweep next - 98");
            x.force(0);
            due("never needed", x.day(), 2);
        }
    }

    private void valleyFaults() {
        x = new SweptSnow();
        valleyFault("", 0, 0);
        valleyFault("   ", 3, 0);
        valleyFault("valley", 6, 0);
        valleyFault("valley 0 1", 7, 1);
        valleyFault("valley 10 1", 7, 1);
        valleyFault("valley 1 0", 9, 1);
        valleyFault("valley 1 31", 9, 1);
        valleyFault("step 0", 0, 4);
        valleyFault(" step 0", 1, 4);
        valleyFault("stop 0", 0, 0);
        valleyFault("valley 1 1;valley 1 1", 11, 4);
        valleyFault("valley 1 1;step 100", 16, 1);
        valleyFault("valley 1 1;house 0 1", 17, 1);
        valleyFault("valley 1 1;step 0;house 0 0", 26, 1);
        valleyFault("valley 1 1;step 0;house 0 100", 26, 1);
        valleyFault("valley 1 1;path 0 1", 16, 1);
        valleyFault("valley 1 1;step 0;path 0 0", 25, 1);
        valleyFault("valley 1 1;step 0;path 0 1", 25, 1);
        valleyFault("valley 1 1;step 0;wall 0 0", 25, 1);
        valleyFault("valley 1 1;step 0;wall 1 0", 23, 1);
        valleyFault("valley 1 1;need 31 0", 16, 1);
        valleyFault("valley 1 1;need 0 0", 18, 1);
        valleyFault("valleys 1 1", 0, 0);
        valleyFault("Valley 1 1", 0, 0);
        valleyFault("valley 1 1;", 11, 0);
        valleyFault("valley 1 1; ", 12, 0);
        valleyFault("valley 1 1 1", 11, 0);
        valleyFault("valley 1 1 123456", 11, 0);
        valleyFault("valley 1 1,", 10, 0);
        valleyFault("valley 1 1\0", 10, 0);
        valleyFault("valley 1 \u00ff", 9, 0);
        valleyFault("valley 000001 1", 7, 1);
        valleyFault("valley11", 6, 1);
        valleyFault("valley 1;step 0", 8, 0);
        valleyFault("valley 1 1;step snow", 16, 0);
        valleyFault("valley 1 1;sweep 1", 11, 0);
        String full = "valley 1 1;step 0" + times(";need 0 0", 38);
        valleyFault(full + ";need 0 0", 360, 4);
        valleyFault(full + ";nee 0 0", 360, 0);
        valleyFault(full + ";", 360, 0);
        valleyFault("valley 1 1" + times(";step 0", 9), 67, 4);
        valleyFault("valley 1 1;step 0" + times(";house 0 1", 5), 58, 4);
    }

    private void rules() {
        promise = 5;
        fresh(VILLAGE);
        due("rule()", rule("sweep snow if own = 1"), 0);
        due("count(14)", x.count(14), 0);
        due("a fault", rule("sweep"), -3 - 8 * 5);
        due("the tape is empty then", x.count(14), 0);
        for (int i = 1; i < 6; i++) {
            due("rule()", rule(times("sweep 1;", 11) + "sweep " + i), i);
        }
        tell("sweep 1");
        due("rule()", x.rule(), -1);
        due("nothing happens", x.count(14), 7);
        tell("sweep");
        due("rule()", x.rule(), -1);
        due("nothing happens", x.count(14), 5);
        due("count(4)", x.count(4), 6);
        due("count(5)", x.count(5), -1);
    }

    private void ruleFault(String text, int place, int what) {
        due("rule() of " + text, rule(text), -2 - (1 + 8 * place + what));
    }

    private void ruleFaults() {
        x = new SweptSnow();
        ruleFault("", 0, 0);
        ruleFault("sweep", 5, 0);
        ruleFault("sweeps 1", 0, 0);
        ruleFault("sweepz 1", 0, 0);
        ruleFault("sweepa 1", 0, 0);
        ruleFault("sweep`1", 5, 0);
        ruleFault("sweep{1", 5, 0);
        ruleFault("valley 1 1", 0, 0);
        ruleFault("sweep x", 6, 0);
        ruleFault("sweep if", 6, 0);
        ruleFault("sweep -1", 6, 0);
        ruleFault("sweep 1;", 8, 0);
        ruleFault("sweep 1 2", 8, 0);
        ruleFault("sweep 1 and 2", 8, 0);
        ruleFault("sweep 1 < 2", 8, 0);
        ruleFault("sweep snow5", 10, 0);
        ruleFault("sweep 5 %", 9, 0);
        ruleFault("sweep 123456", 6, 1);
        ruleFault("sweep 1 if", 10, 0);
        ruleFault("sweep 1 if snow", 15, 0);
        ruleFault("sweep 1 if snow;", 15, 0);
        ruleFault("sweep 1 if not", 14, 0);
        ruleFault("sweep 1 if 1 < = 2", 15, 0);
        ruleFault("sweep 1 if 1 => 2", 14, 0);
        ruleFault("sweep 1 if 1 = 1 = 1", 17, 0);
        ruleFault("sweep 1 if 1 = 1 if", 17, 0);
        ruleFault("sweep 1 if [snow=1", 18, 0);
        ruleFault("sweep 1 if [snow=1;", 18, 0);
        ruleFault("sweep 1 if [1] = 1", 13, 0);
        ruleFault("sweep 1 if next = 1]", 19, 0);
        ruleFault("sweep 1 if 1=1 or", 17, 0);
        String start = "sweep 1 if ";
        ruleFault(start + times("[", 11), 21, 2);
        ruleFault(start + times("not ", 11) + "1=1", 51, 2);
        ruleFault(start + times("not[", 5) + "not 1=1", 31, 2);
        ruleFault(start + times("not[", 5) + "[1=1", 31, 2);
        ruleFault(start + "[1=1] and " + times("[", 11), 31, 2);
        ruleFault("sweep 1" + times("+1", 60), 126, 3);
        ruleFault("sweep 1" + times("+1", 59) + "+123456", 126, 1);
        ruleFault("sweep 1" + times("+1", 59) + "+x", 126, 0);
        ruleFault("sweep 1" + times("+1", 58) + " if 1=1", 128, 3);
        ruleFault("sweep 1" + times("+1", 57) + " if 1=1", 127, 3);
        ruleFault("sweep 1" + times("+1", 59) + ";sweep 1", 132, 3);
        ruleFault(times("sweep 1;", 12) + "sweep 1", 96, 4);
        ruleFault(times("sweep 1;", 12) + "swoop 1", 96, 0);
        ruleFault(times("sweep 1;", 12), 96, 0);
        due("10 deep", rule(start + times("[", 10) + "1=1" + times("]", 10)), 0);
        due("10 deep", rule(start + times("not ", 10) + "1=1 and " + times("not ", 10) + "1=1"), 1);
        due("60 parts", rule("sweep 1" + times("+1", 56) + " if 1=1"), 2);
        due("blanks", rule("  sweep5if[5<=5]or not 1>=2;sweep 1*2 "), 3);
        due("99999", rule("sweep 99999"), 4);
    }

    /** Which STEP one HOUSE of number 0 sweeps on this DAY: 4 STEPS of 1, 2, 3, 4 SNOW; its own is 1. */
    private int swept(String rule) {
        fresh("valley 1 3;step 1;step 2;step 3;step 4;house 1 50;path 0 2;path 2 3;path 0 3;need 0 2;need 4 1;need 2 1",
            rule);
        return x.day();
    }

    private void words() {
        promise = 9;
        all("greatest", 8, () -> swept("sweep snow"), () -> swept("sweep step"), () -> swept("sweep 5 if snow = 4"),
            () -> swept("sweep 1 if snow = 1;sweep snow"), () -> swept("sweep step*day + step"));
        all("of several the least", 1, () -> swept("sweep 1"), () -> swept("sweep strength"), () -> swept("sweep closed"),
            () -> swept("sweep house+1"), () -> swept("sweep day+1"), () -> swept("sweep closed if closed = 2"),
            () -> swept("sweep 1 if strength = 50 and house = 0 and day = 0"), () -> swept("sweep 1 if next = 99"), () -> swept("sweep 10 - snow"));
        all("own", 2, () -> swept("sweep own"), () -> swept("sweep 100 - next if next < 99 and needed = 0"),
            () -> swept("sweep 1 if next = 2"), () -> swept("sweep 3 - beside if snow = 2"));
        all("needed", 4, () -> swept("sweep needed"), () -> swept("sweep 1 if next = 0"), () -> swept("sweep 99 - next"));
        all("beside", 1, () -> swept("sweep beside"), () -> swept("sweep 1 if beside = 2"));
        all("none", 0, () -> swept("sweep 0"), () -> swept("sweep snow - 4"), () -> swept("sweep swept"),
            () -> swept("sweep before"), () -> swept("sweep 1 if snow = 9"), () -> swept("sweep 0 - 1"),
            () -> swept("sweep 0;sweep 1"), () -> swept("sweep house"), () -> swept("sweep 1 if next < 99 and next > 2"));
        fresh("valley 1 9;step 5;step 5;house 0 1;house 0 1", "sweep 9 if before = 1;sweep 5 if swept = 0");
        due("swept: the second HOUSE takes another one", x.day(), 3);
        fresh("valley 1 9;step 5;step 5;house 0 1", "sweep 9 if before = 1;sweep step + 1");
        x.sweep(0, 0);
        due("before", x.day(), 1);
        due("before: the DAY ahead", x.day(), 1);
        fresh("valley 1 9;step 0;step 1;house 0 1", "sweep 9 - step");
        due("a STEP without SNOW is none", x.day(), 2);
    }

    /** 3 STEPS; what is told must choose the one. */
    private int chosen(String rule) {
        fresh("valley 1 30;step 1;step 2;step 3;house 0 1", rule);
        return x.day();
    }

    private void arithmetic() {
        all("* ahead of +", 4, () -> chosen("sweep 1 + step * 2"), () -> chosen("sweep 1 if 1+2*3 = 7 and step = 2"),
            () -> chosen("sweep 1 if 10-3-2 = 5 and step = 2"), () -> chosen("sweep 1 if 12/4*3 = 9 and step = 2"),
            () -> chosen("sweep 1 if 7 % 4 * 2 + 20 / 3 - 1 = 11 and step = 2"),
            () -> chosen("sweep 1 if 2*3 + 4*5 - 6*7 = 0 - 16 and step = 2"));
        all("/ towards 0", 4, () -> chosen("sweep 1 if step - 9 < 0 - 6 and step = 2"),
            () -> chosen("sweep 1 if house - 7 / 2 = 0 - 3 and step = 2"), () -> chosen("sweep step / 2"));
        all("by 0", 4, () -> chosen("sweep 1 if 5 / house = 0 and 5 % house = 0 and step = 2"),
            () -> chosen("sweep 1 if 5 / 0 = 0 and step = 2"));
        String big = "99999*99999*99999*99999";
        // 99999^4 mod 2^64, as a signed number, is above 0 or not as Java's own product tells.
        long wraps = 99999L * 99999L * 99999L * 99999L;
        due("goes round", chosen("sweep " + big), wraps > 0 ? 1 : 0);
        due("goes round", chosen("sweep 0 - " + big), wraps > 0 ? 0 : 1);
        due("rest of below 0", chosen("sweep 1 if day*1 - 7 + 0 = 0 - 7 and step = 2"), 4);
        // A TERM has no sign of its own, but a product that went round may lie below 0.
        long low = 99999L * 99999L * 99999L * 99997L;
        due("/ of below 0", chosen("sweep 1 if 99999*99999*99999*99997/1000 > 0"), low / 1000 > 0 ? 1 : 0);
        due("% of below 0", chosen("sweep 1 if 99999*99999*99999*99997%1000 < 0"), low % 1000 < 0 ? 1 : 0);
        due("% of below 0", chosen("sweep 1 if " + big + "%1000 < 0"), wraps % 1000 < 0 ? 1 : 0);
    }

    private void tests() {
        all("holds", 1, () -> chosen("sweep 1 if 1<2"), () -> chosen("sweep 1 if 2<=2"), () -> chosen("sweep 1 if 2=2"),
            () -> chosen("sweep 1 if 2>=2"), () -> chosen("sweep 1 if 3>2"), () -> chosen("sweep 1 if not 3<2"),
            () -> chosen("sweep 1 if 1=1 or 1=2 and 1=2"), () -> chosen("sweep 1 if 1=2 and 1=2 or 1=1"),
            () -> chosen("sweep 1 if not [1=1 and 1=2]"), () -> chosen("sweep 1 if not not 1=1"),
            () -> chosen("sweep 1 if not 1=2 and 1=1"), () -> chosen("sweep 1 if [1=2 or 1=1] and [1=1]"));
        all("holds not", 0, () -> chosen("sweep 1 if 2<2"), () -> chosen("sweep 1 if 3<=2"), () -> chosen("sweep 1 if 2=3"),
            () -> chosen("sweep 1 if 1>=2"), () -> chosen("sweep 1 if 2>2"), () -> chosen("sweep 1 if not 2<3"),
            () -> chosen("sweep 1 if [1=1 or 1=2] and 1=2"), () -> chosen("sweep 1 if not 1=1 or 1=2"),
            () -> chosen("sweep 1 if not not not 1=1"), () -> chosen("sweep 1 if not [1=2 or 1=1]"));
    }

    private void force() {
        promise = 6;
        fresh(VILLAGE);
        due("force", x.force(-1), -1);
        due("force", x.force(0), -2);
        rule("sweep 1");
        rule("sweep 2");
        due("force", x.force(1), -1);
        due("force", x.force(0), 1);
        all("force", -2, () -> x.force(2), () -> x.force(-2), () -> x.force(6), () -> x.force(Integer.MIN_VALUE),
            () -> x.force(Integer.MAX_VALUE));
        due("count(5)", x.count(5), 0);
        due("force", x.force(-1), 0);
        due("count(5)", x.count(5), -1);
    }

    private void steps() {
        promise = 7;
        fresh(VILLAGE);
        int[] want = {7, 1, 0, 1, 2, 0};
        for (int i = 0; i < want.length; i++) {
            due("step(0, " + i + ")", x.step(0, i), want[i]);
        }
        all("step", -1, () -> x.step(1, 3), () -> x.step(2, 3));
        due("step(1, 4)", x.step(1, 4), 5);
        x.sweep(0, 0);
        due("swept", x.step(0, 2), 1);
        due("thrown on, not swept", x.step(1, 2), 0);
        due("closed", x.step(1, 1), 1);
        x.day();
        due("needed", x.step(0, 5), 1);
        due("not needed", x.step(1, 5), 0);
        due("swept", x.step(0, 2), 0);
        all("step", -2, () -> x.step(3, 0), () -> x.step(-1, 0), () -> x.step(0, 6), () -> x.step(0, -1));
        fresh("valley 1 5;step 4;need 30 0");
        for (int i = 0; i < 30; i++) {
            due("needed", x.step(0, 5), 0);
            x.day();
        }
        due("needed", x.step(0, 5), 1);
        x.day();
        due("needed", x.step(0, 5), 0);
        fresh("valley 1 5;step 4;step 5");
        due("below DEEP", x.step(0, 1), 0);
        due("DEEP", x.step(1, 1), 1);
    }

    private void houses() {
        promise = 8;
        fresh(VILLAGE);
        int[] want = {1, 4, 0};
        for (int i = 0; i < want.length; i++) {
            due("house(1, " + i + ")", x.house(1, i), want[i]);
        }
        x.sweep(1, 0);
        due("has swept", x.house(1, 2), 1);
        due("has not", x.house(0, 2), 0);
        all("house", -1, () -> x.house(2, 0), () -> x.house(-1, 0), () -> x.house(0, 3), () -> x.house(0, -1));
        x.day();
        due("nobody has", x.house(1, 2), 0);
    }

    private void days() {
        promise = 9;
        fresh(VILLAGE);
        due("day()", x.day(), 3);
        snow(3, 8, 0);
        due("count(6)", x.count(6), 1);
        due("count(8)", x.count(8), 0);
        due("day()", x.day(), 2);
        snow(3, 7, 0);
        fresh(VILLAGE);
        due("by hand", x.sweep(1, 1), 2);
        due("what was swept by hand, too; who has swept does not", x.day(), 3);
        snow(3, 10, 0);
        fresh(VILLAGE, "sweep snow if own = 1");
        due("by the RULE", x.day(), 3);
        snow(3, 8, 0);
        fresh("valley 9 1;step 0;step 99;house 0 99;wall 1 0", "sweep 1");
        for (int i = 0; i < 11; i++) {
            x.toss(0, 99);
        }
        x.sweep(0, 1);
        snow(999, 0);
        x.day();
        snow(999, 9);
        x.sweep(0, 0);
        for (int i = 0; i < 2; i++) {
            x.toss(0, 99);
        }
        x.day();
        snow(999, 9);
        fresh("valley 1 1");
        due("no steps", x.day(), 0);
        for (int i = 1; i < 490; i++) {
            x.day();
        }
        due("count(6)", x.count(6), 490);
        lastDay();
    }

    /** More calls than are promised: DAY 999 can't be come to by fewer. */
    private void lastDay() {
        fresh("valley 1 1;step 0;step 0");
        for (int i = 0; i < 1005; i++) {
            due("day()", x.day(), i < 999 ? 0 : -1);
        }
        due("count(6)", x.count(6), 999);
        due("DAYS that are asked go on", x.ring(0), 999);
        due("nothing happens", x.count(12), 20);
    }

    private void sweeping() {
        promise = 10;
        fresh(VILLAGE);
        all("sweep", -1, () -> x.sweep(0, 2), () -> x.sweep(2, 0), () -> x.sweep(-1, 0), () -> x.sweep(0, 3),
            () -> x.sweep(0, -1));
        due("nothing happens", x.count(12), 0);
        due("as much as its STRENGTH", x.sweep(1, 0), 4);
        snow(3, 6, 0);
        due("it has", x.sweep(1, 1), -1);
        due("what lies there", x.sweep(0, 0), 3);
        snow(0, 9, 0);
        due("count(8)", x.count(8), 1);
        due("count(12)", x.count(12), 2);
        fresh(VILLAGE);
        due("no WALL: it is gone", x.sweep(0, 1), 2);
        snow(7, 0, 0);
    }

    private void tossing() {
        promise = 11;
        fresh(VILLAGE);
        all("toss", -1, () -> x.toss(0, 0), () -> x.toss(0, 100), () -> x.toss(3, 1), () -> x.toss(-1, 1),
            () -> x.toss(0, -1));
        due("nothing happens", x.count(12), 0);
        due("toss", x.toss(0, 1), 8);
        due("toss", x.toss(2, 99), 99);
        due("not swept", x.count(8), 0);
        for (int i = 2; i <= 10; i++) {
            due("toss", x.toss(2, 99), 99 * i);
        }
        all("999 at most", 999, () -> x.toss(2, 99), () -> x.toss(2, 1));
        due("an ACT", x.undo(), 12);
    }

    private void pulling() {
        promise = 12;
        fresh(VILLAGE);
        all("pull", -1, () -> x.pull(1), () -> x.pull(3), () -> x.pull(-1));
        due("nothing happens", x.count(12), 0);
        due("pull", x.pull(0), 1);
        due("pull", x.pull(0), -1);
        due("step(0, 3)", x.step(0, 3), -1);
        due("it is gone", x.sweep(0, 0), 7);
        snow(0, 2, 0);
        due("count(12)", x.count(12), 2);
    }

    private void thawing() {
        promise = 13;
        fresh(VILLAGE);
        due("thaw", x.thaw(), 4);
        snow(3, 1, 0);
        due("thaw", x.thaw(), 1);
        due("thaw", x.thaw(), 0);
        due("thaw", x.thaw(), -1);
        due("count(12)", x.count(12), 3);
        due("not swept", x.count(8), 0);
    }

    private void undoing() {
        promise = 14;
        fresh(VILLAGE, "sweep snow");
        due("none can", x.undo(), -1);
        x.sweep(0, 0);
        x.day();
        x.pull(0);
        x.thaw();
        x.toss(2, 5);
        x.force(-1);
        x.seed(9);
        x.note(0, 0, 1);
        due("undo", x.undo(), 4);
        snow(1, 4, 0);
        due("undo", x.undo(), 3);
        snow(3, 8, 0);
        due("undo", x.undo(), 2);
        due("step(0, 3)", x.step(0, 3), 1);
        due("undo", x.undo(), 1);
        due("count(6)", x.count(6), 0);
        all("as it was swept", 1, () -> x.count(8), () -> x.house(0, 2));
        due("undo", x.undo(), 0);
        snow(7, 2, 0);
        all("as it was swept", 0, () -> x.count(8), () -> x.house(0, 2));
        due("no ACTS", x.count(5), -1);
        due("no ACTS", x.count(13), 9);
        due("no ACTS", x.count(11), 1);
        due("none can", x.undo(), -1);
        for (int i = 0; i < 25; i++) {
            x.toss(2, 1);
        }
        due("count(12)", x.count(12), 20);
        for (int i = 19; i >= 0; i--) {
            due("undo", x.undo(), i);
        }
        due("none can", x.undo(), -1);
        snow(7, 2, 5);
        fresh("valley 1 9;step 5;step 5;house 0 1", "sweep 9 if before = 1;sweep step + 1");
        x.day();
        x.day();
        x.sweep(0, 0);
        x.day();
        x.undo();
        x.undo();
        due("before, too", x.day(), 2);
    }

    private void ahead() {
        promise = 15;
        fresh(VILLAGE);
        int[] want = {2, 8, 7, 6, 5, 4, 4};
        for (int n = 0; n < want.length; n++) {
            due("ahead(1, " + n + ", 0)", x.ahead(1, n, 0), want[n]);
            due("ahead(-9, " + n + ", 1)", x.ahead(-9, n, 1), n < 5 ? 1 : 0);
        }
        due("ahead(0, 100, 0)", x.ahead(0, 100, 0), 3);
        all("ahead", -1, () -> x.ahead(0, 101, 0), () -> x.ahead(0, -1, 0), () -> x.ahead(3, 1, 0), () -> x.ahead(-1, 1, 0),
            () -> x.ahead(0, 1, 2), () -> x.ahead(0, 1, -1), () -> x.ahead(0, 101, 1));
        snow(7, 2, 0);
        x.sweep(0, 0);
        due("from how all is now", x.ahead(0, 1, 0), 3);
        due("nothing changes", x.count(12), 1);
        due("nothing changes", x.count(8), 1);
    }

    private void stays() {
        promise = 16;
        fresh(VILLAGE);
        all("stays", 4, () -> x.stays(1), () -> x.stays(60));
        all("stays", -1, () -> x.stays(0), () -> x.stays(61));
        x.day();
        all("at its begin, too", 5, () -> x.stays(1), () -> x.stays(60));
        for (int i = 0; i < 4; i++) {
            x.day();
        }
        due("stays", x.stays(60), 7);
        fresh("valley 9 9;step 1;house 0 9", "sweep 1 if day = 1");
        due("behind the last", x.stays(1), 1);
        due("behind the last", x.stays(2), 0);
    }

    private void closes() {
        promise = 17;
        fresh(VILLAGE);
        due("this one the first", x.closes(0), 0);
        due("closes", x.closes(1), 1);
        due("on none", x.closes(2), -2);
        all("closes", -1, () -> x.closes(3), () -> x.closes(-1));
        x.day();
        due("closes", x.closes(1), 1);
        due("closes", x.closes(0), -2);
        fresh("valley 9 9;step 1;house 0 9", "sweep 1 if day = 98");
        due("the last of 100", x.closes(0), 99);
        fresh("valley 9 9;step 1;house 0 9", "sweep 1 if day = 99");
        due("none of 100", x.closes(0), -2);
        x.day();
        due("the DAY by its number", x.closes(0), 100);
    }

    private void ring() {
        promise = 18;
        fresh(VILLAGE);
        due("ring(0)", x.ring(0), 5);
        due("ring(1)", x.ring(1), 1);
        all("ring", -1, () -> x.ring(2), () -> x.ring(-1));
        x.day();
        due("the DAY by its number", x.ring(0), 5);
        // 9 falls, 7 are taken: 2 more each DAY until nothing is left to compare.
        fresh("valley 9 1;step 9;house 0 7", "sweep 1");
        all("there is none", -2, () -> x.ring(0), () -> x.ring(1));
        // 1 falls, 2 are taken each DAY that there is SNOW: 9, 8, .. 1, then 1 again.
        fresh("valley 1 1;step 9;house 0 2", "sweep 1");
        due("ring(0)", x.ring(0), 8);
        due("ring(1)", x.ring(1), 1);
        // What is swept comes down again: the SNOW lies alike at once.
        fresh("valley 3 1;step 9;house 0 3", "sweep 1 if day % 3 = 2");
        due("ring(0)", x.ring(0), 0);
        due("ring(1)", x.ring(1), 1);
        // 3, 5, 3, 5: the weak HOUSE leaves more than there was, the strong one less.
        fresh("valley 3 30;step 3;house 0 1;house 0 5", "sweep 1 if house = 0 and snow < 5 or house = 1 and snow >= 5");
        due("ring(0)", x.ring(0), 0);
        due("ring(1)", x.ring(1), 2);
        // 2 more each DAY, up to 999 or the DAY told.
        fresh("valley 9 1;step 9;house 0 7", "sweep 1 if day < 59");
        due("60 DAYS from now at most", x.ring(0), 59);
        due("60 DAYS from now at most", x.ring(1), 1);
        fresh("valley 9 1;step 9;house 0 7", "sweep 1 if day < 60");
        due("60 DAYS from now at most", x.ring(0), -2);
        fresh("valley 1 1");
        due("no steps", x.ring(0), 0);
        due("no steps", x.ring(1), 1);
    }

    private void spare() {
        promise = 19;
        fresh("valley 3 5;step 7;step 2;need 1 0;need 2 0;need 9 0");
        due("spare(0, 1, 0)", x.spare(0, 1, 0), 0);
        due("spare(0, 2, 0)", x.spare(0, 2, 0), 1);
        due("least as bits", x.spare(0, 2, 1), 1);
        due("spare(0, 10, 0)", x.spare(0, 10, 0), 1);
        due("spare(1, 10, 0)", x.spare(1, 10, 0), 0);
        due("spare(1, 10, 1)", x.spare(1, 10, 1), 0);
        all("spare", -1, () -> x.spare(0, 0, 0), () -> x.spare(0, 11, 0), () -> x.spare(2, 1, 0), () -> x.spare(-1, 1, 0),
            () -> x.spare(0, 1, 2), () -> x.spare(0, 1, -1));
        // FALL closes it again at once, so it is swept on each DAY on which it is needed.
        fresh("valley 9 5;step 0;need 2 0;need 3 0;need 5 0");
        due("never swept, never closed", x.spare(0, 10, 0), 0);
        x.toss(0, 5);
        due("spare(0, 10, 0)", x.spare(0, 10, 0), 3);
        due("spare(0, 10, 1)", x.spare(0, 10, 1), 4 + 8 + 32);
        x.day();
        x.day();
        due("from now on", x.spare(0, 4, 1), 1 + 2 + 8);
        due("DEEP itself is CLOSED", x.spare(0, 1, 0), 1);
    }

    private void figure() {
        promise = 20;
        fresh("valley 3 5;step 7;step 2;step 0;step 4;wall 0 1;wall 1 0;house 0 1;wall 3 2");
        due("as it is", x.figure(1, 0), 0);
        due("as it is", x.figure(1, 1), 0);
        due("thrown over", x.figure(2, 0), 1);
        due("thrown over", x.figure(2, 1), 1);
        // Of 0 and 1 at once: 2 and 7 lie there then, and 3 come down on each.
        due("at once", x.figure(3, 1), 3);
        // 4 lie on the third STEP then: below DEEP.
        due("by none", x.figure(4, 0), -2);
        due("by none", x.figure(4, 1), -2);
        x.toss(3, 1);
        due("figure", x.figure(9, 1), 0);
        due("figure", x.figure(1 + 4, 1), 8);
        all("figure", -1, () -> x.figure(16, 0), () -> x.figure(-1, 0), () -> x.figure(0, 2), () -> x.figure(0, -1));
        fresh("valley 1 5;step 3;step 3;step 2;wall 0 2;wall 1 2");
        due("of several the least", x.figure(4, 1), 1);
        fresh("valley 1 5" + times(";step 5", 8));
        due("all of them", x.figure(0, 0), 8);
        fresh("valley 3 5;step 5;step 5;step 3;house 0 1");
        due("figure", x.figure(1, 1), 2);
        due("none at all", x.figure(0, 0), 2);
        x.sweep(0, 2);
        due("2 and FALL, swept already", x.figure(7, 0), 0);
        due("it falls on those swept already", x.figure(3, 1), 4);
        fresh("valley 9 5;step 0;step 1");
        due("each with SNOW", x.figure(1, 0), -2);
        due("FALL closes", x.figure(2, 1), 2);
        due("no steps", valley("valley 1 1"), 0);
        due("no steps", x.figure(0, 0), 0);
        due("no steps", x.figure(1, 0), -1);
    }

    private void way() {
        promise = 21;
        // 0 - 1 - 3, 0 - 2 - 3, 0 - 4 - 5 - 3; 1 and 2 are CLOSED, 6 lies apart.
        fresh("valley 1 5;step 0;step 9;step 9;step 0;step 0;step 0;step 0;"
            + "path 0 1;path 1 3;path 0 2;path 2 3;path 0 4;path 4 5;path 5 3");
        due("fewest CLOSED", x.way(0, 3, 0), 0);
        due("steps", x.way(0, 3, 1), 4);
        due("next", x.way(0, 3, 2), 4);
        x.toss(4, 9);
        due("fewest CLOSED", x.way(0, 3, 0), 1);
        due("fewest STEPS", x.way(0, 3, 1), 3);
        due("the least", x.way(0, 3, 2), 1);
        due("the least", x.way(3, 0, 2), 1);
        due("both ends too", x.way(1, 2, 0), 2);
        due("both ends too", x.way(1, 2, 1), 3);
        due("the least", x.way(1, 2, 2), 0);
        due("it is there", x.way(1, 1, 0), 1);
        due("it is there", x.way(1, 1, 1), 1);
        due("it is there", x.way(1, 1, 2), -1);
        all("there is none", -2, () -> x.way(0, 6, 0), () -> x.way(6, 0, 1), () -> x.way(0, 6, 2));
        all("way", -3, () -> x.way(0, 7, 0), () -> x.way(7, 0, 0), () -> x.way(-1, 0, 0), () -> x.way(0, -1, 0),
            () -> x.way(0, 3, 3), () -> x.way(0, 3, -1));
    }

    private void pacts() {
        promise = 22;
        // Alone with a CLOSED STEP: by sweeping it is OPEN behind the night, 2 - 1 each DAY.
        fresh("valley 3 5;step 7;house 0 10");
        due("pacts(1, 0)", x.pacts(1, 0), 1);
        due("pacts(1, 1)", x.pacts(1, 1), 1);
        due("pacts(1, 2)", x.pacts(1, 2), 1);
        due("pacts(30, 2)", x.pacts(30, 2), 30);
        all("pacts", -1, () -> x.pacts(0, 0), () -> x.pacts(31, 0), () -> x.pacts(1, 3), () -> x.pacts(1, -1));
        // FALL closes it again: to sweep is in vain.
        fresh("valley 5 5;step 7;house 0 10", "sweep 1");
        due("in vain", x.pacts(1, 1), 0);
        due("in vain", x.pacts(4, 2), 4);
        // Both sweep the same STEP; one is enough, and who sweeps alone has 1 each DAY, the other one 2.
        fresh("valley 3 5;step 7;house 0 10;house 0 10");
        due("pacts(1, 0)", x.pacts(1, 0), 2);
        due("pacts(1, 1)", x.pacts(1, 1), 1);
        // The first one leaves nothing, so the second does not sweep: 1 + 2 in each set but none: 0.
        due("pacts(1, 2)", x.pacts(1, 2), 3);
        x.sweep(0, 0);
        x.toss(0, 7);
        due("who has swept, too", x.pacts(1, 0), 2);
        // Each throws on the other. None: 0 0; one alone: 1 for it; both: 10 of 14 come back, and -1 for each.
        fresh("valley 3 5;step 7;step 7;house 0 10;house 1 10;wall 0 1;wall 1 0");
        due("of all sets", x.pacts(1, 2), 3);
        due("pacts(1, 0)", x.pacts(1, 0), 2);
        due("pacts(1, 1)", x.pacts(1, 1), 1);
        fresh("valley 1 1");
        due("no houses", x.pacts(1, 0), 1);
        due("no houses", x.pacts(1, 1), 0);
        due("no houses", x.pacts(1, 2), 0);
        // None: 2 0; the first: 1 0; both: 1 -1; the second: 0 1. It goes round.
        fresh("valley 1 6;step 4;step 6;house 0 7;house 1 3;wall 0 1;wall 1 0");
        due("there is none", x.pacts(1, 0), 0);
        due("there is none", x.pacts(1, 1), -2);
        due("of all sets", x.pacts(1, 2), 2);
    }

    private void thrown() {
        promise = 23;
        fresh(VILLAGE);
        due("thrownOn(1, 1, 0)", x.thrownOn(1, 1, 0), 7);
        due("thrownOn(1, 60, 0)", x.thrownOn(1, 60, 0), 7);
        due("thrownOn(1, 1, 1)", x.thrownOn(1, 1, 1), 3);
        due("thrownOn(1, 60, 1)", x.thrownOn(1, 60, 1), 15);
        due("thrownOn(0, 60, 1)", x.thrownOn(0, 60, 1), 3);
        due("thrownOn(2, 60, 0)", x.thrownOn(2, 60, 0), 0);
        all("thrownOn", -1, () -> x.thrownOn(0, 0, 0), () -> x.thrownOn(0, 61, 0), () -> x.thrownOn(3, 1, 0),
            () -> x.thrownOn(-1, 1, 0), () -> x.thrownOn(0, 1, 2), () -> x.thrownOn(0, 1, -1));
        x.sweep(0, 0);
        due("from now on", x.thrownOn(1, 1, 0), 0);
        due("by night, where it was swept by hand", x.thrownOn(0, 1, 1), 3);
        fresh("valley 9 1;step 0;step 99;house 1 99;wall 1 0", "sweep step");
        for (int i = 0; i < 11; i++) {
            x.toss(0, 99);
        }
        due("what 999 cuts off, too", x.thrownOn(0, 1, 0), 99);
    }

    private void best() {
        promise = 24;
        fresh(VILLAGE);
        // Without: 5 days on nothing is CLOSED at all.
        due("none", x.best(0, 5, 0), -1);
        due("none", x.best(0, 5, 1), 0);
        // After one DAY the second STEP is CLOSED by what the first HOUSE throws; if that one takes
        // the second STEP's 2 instead, the first one stays CLOSED: 1 in each case.
        due("of several none", x.best(0, 1, 0), -1);
        due("how many", x.best(0, 1, 1), 1);
        fresh("valley 1 5;step 0;step 6;step 7;house 0 9");
        due("the least", x.best(0, 1, 0), 1);
        due("the least", x.best(0, 1, 1), 1);
        fresh("valley 1 5;step 0;step 6;step 7;house 0 9", "sweep snow");
        due("by the RULE the rest", x.best(0, 1, 0), -1);
        due("by the RULE the rest", x.best(0, 2, 1), 0);
        x.sweep(0, 1);
        due("it has", x.best(0, 1, 0), -2);
        // By the RULE, or by hand, what is swept of the first two closes the other one.
        fresh("valley 1 5;step 4;step 4;step 0;house 0 9;wall 0 1;wall 1 0", "sweep 1 if step = 0");
        due("with SNOW", x.best(0, 1, 0), -1);
        x.toss(2, 1);
        due("with SNOW", x.best(0, 1, 0), 2);
        due("with SNOW", x.best(0, 1, 1), 0);
        x.day();
        all("best", -2, () -> x.best(0, 0, 0), () -> x.best(0, 31, 0), () -> x.best(1, 1, 0), () -> x.best(-1, 1, 0),
            () -> x.best(0, 1, 2), () -> x.best(0, 1, -1));
    }

    private void might() {
        promise = 25;
        fresh("valley 3 5;step 7;house 0 1");
        // 7 less STRENGTH and 3 more must be below 5.
        due("might", x.might(0, 1), 6);
        due("might", x.might(0, 30), 6);
        due("nothing changes", x.house(0, 1), 1);
        all("might", -1, () -> x.might(0, 0), () -> x.might(0, 31), () -> x.might(1, 1), () -> x.might(-1, 1));
        fresh("valley 5 5;step 7;house 0 1");
        due("by none", x.might(0, 1), -2);
        fresh("valley 1 5;step 99;house 0 1");
        due("might", x.might(0, 1), 96);
        x.toss(0, 3);
        due("99", x.might(0, 1), 99);
        x.toss(0, 1);
        due("by none", x.might(0, 1), -2);
        fresh("valley 1 5;step 3;house 0 9");
        due("the least", x.might(0, 1), 1);
        fresh("valley 1 5;step 9;house 0 9", "sweep 1 if strength = 7");
        due("the RULE sees it", x.might(0, 1), 7);
        fresh("valley 1 2;step 3;house 0 9", "sweep 1 if day < 1 and strength > 2");
        due("might", x.might(0, 2), 3);
    }

    private void notes() {
        promise = 26;
        fresh(VILLAGE);
        due("none", x.note(-1, -5, -5), 0);
        all("note", -2, () -> x.note(-2, 0, 0), () -> x.note(61, 0, 0), () -> x.note(0, 3, 0), () -> x.note(0, -1, 0),
            () -> x.note(0, 0, -1), () -> x.note(0, 0, 1000));
        due("nothing happens", x.count(11), 0);
        for (int i = 1; i <= 10; i++) {
            due("note", x.note(i == 1 ? 60 : 0, 0, i == 2 ? 999 : 0), i);
        }
        all("there are 10", -2, () -> x.note(0, 0, 0));
        due("count(11)", x.count(11), 10);
        due("none", x.note(-1, 0, 0), 0);
        due("count(11)", x.count(11), 0);
        due("note", x.note(0, 0, 0), 1);
    }

    private void ruled() {
        promise = 27;
        fresh(VILLAGE, "sweep snow if own = 1", "sweep 0", "sweep snow");
        due("without NOTES", x.ruled(0), 4);
        due("without NOTES", x.ruled(1), -1);
        x.toss(0, 50);
        x.pull(0);
        x.day();
        x.note(0, 0, 7);
        due("as the text told it", x.ruled(0), 4);
        x.note(1, 0, 7);
        due("ruled(0)", x.ruled(0), 1);
        due("ruled(1)", x.ruled(1), 1);
        x.note(-1, 0, 0);
        // none: 3, 8 then 3, 7. own: the same, then 3 of 3 are thrown: 8 + 3 - 4 + 3 = 10.
        x.note(1, 1, 8);
        x.note(2, 1, 10);
        due("ruled(1)", x.ruled(1), 0);
        x.note(60, 1, 0);
        due("ruled(0)", x.ruled(0), 0);
        due("there is none such", x.ruled(1), -2);
        all("ruled", -3, () -> x.ruled(2), () -> x.ruled(-1));
    }

    private void look() {
        promise = 28;
        fresh(VILLAGE, "sweep snow if own = 1", "sweep 0", "sweep snow if step = 1");
        due("DAY 0: all alike", x.look(0, 0), 0);
        due("DAY 0: all alike", x.look(0, 1), 4);
        // DAY 1: none 3 8 0, own 3 8 0, nothing 7 2 0, the second STEP: 10 of 2 and 4 of 0: 7 3 0.
        due("look(1, 0)", x.look(1, 0), 0);
        due("look(1, 1)", x.look(1, 1), 2);
        // DAY 2: none 3 7, own 3 10, nothing 7 2, the second STEP 7 3.
        due("look(2, 0)", x.look(2, 0), 1);
        due("look(2, 1)", x.look(2, 1), 1);
        x.note(1, 0, 7);
        due("of those that agree", x.look(1, 0), 1);
        due("of those that agree", x.look(1, 1), 1);
        due("look(60, 1)", x.look(60, 1), 1);
        x.note(1, 0, 8);
        all("no RULE is so", -2, () -> x.look(1, 0), () -> x.look(1, 1));
        all("look", -1, () -> x.look(-1, 0), () -> x.look(61, 0), () -> x.look(0, 2), () -> x.look(0, -1));
        fresh("valley 1 1");
        all("no steps", -2, () -> x.look(0, 0), () -> x.look(0, 1));
    }

    private void draws() {
        promise = 29;
        fresh(VILLAGE);
        due("seed", x.seed(0), 0);
        due("seed", x.seed(7), 0);
        due("seed", x.seed(-1), -1);
        due("seed", x.seed(Integer.MIN_VALUE), -1);
        due("seed", x.seed(Integer.MAX_VALUE), 7);
        due("count(13)", x.count(13), Integer.MAX_VALUE);
        promise = 30;
        fresh("valley 3 5;step 1;step 2;step 0");
        // x 0: 12345, a DRAW of 0; then 1406932606, a DRAW of 21468, mod 3 0; then 654583775, 9988, mod 100 88.
        due("storms(1, 1, 0, 0)", x.storms(1, 1, 0, 0), 3);
        due("storms(1, 1, 1, 0)", x.storms(1, 1, 1, 0), 6);
        due("storms(1, 2, 88, 0)", x.storms(1, 2, 88, 0), 6);
        due("storms(1, 2, 89, 0)", x.storms(1, 2, 89, 0), 9);
        due("m times, each from now on", x.storms(2, 1, 88, 0), 9);
        due("m times, each from now on", x.storms(2, 1, 89, 0), 12);
        due("storms(10, 60, 100, 0)", x.storms(10, 60, 100, 0), 10 * (3 + 180));
        due("storms(10, 60, 100, 1)", x.storms(10, 60, 100, 1), 30);
        due("storms(10, 60, 0, 1)", x.storms(10, 60, 0, 1), 0);
        due("x as it was", x.count(13), 0);
        snow(1, 2, 0);
        all("storms", -1, () -> x.storms(0, 1, 1, 0), () -> x.storms(11, 1, 1, 0), () -> x.storms(1, 0, 1, 0),
            () -> x.storms(1, 61, 1, 0), () -> x.storms(1, 1, -1, 0), () -> x.storms(1, 1, 101, 0),
            () -> x.storms(1, 1, 1, 2), () -> x.storms(1, 1, 1, -1));
        // 1 and FALL make 5, which the HOUSE sweeps on the same DAY; FALL comes down again.
        fresh("valley 4 5;step 1;house 0 9");
        due("ahead of the DAY", x.storms(1, 1, 100, 0), 4);
        due("storms", x.storms(1, 1, 100, 1), 0);
        fresh("valley 1 1");
        due("no steps", x.storms(1, 1, 100, 0), 0);
        due("no steps", x.storms(1, 1, 100, 1), 0);
    }

    private void counts() {
        promise = 31;
        fresh(VILLAGE, "sweep 1", "sweep snow");
        x.sweep(0, 0);
        x.seed(77);
        x.note(0, 0, 0);
        x.feed(0, 0, 0, 0, 0);
        int[] want = {3, 5, 3, 2, 2, 1, 0, 2, 1, 0, 9, 1, 1, 77, 20};
        for (int i = 0; i < want.length; i++) {
            due("count(" + i + ")", x.count(i), want[i]);
        }
        all("count", -1, () -> x.count(15), () -> x.count(-1));
        x.day();
        due("count(6)", x.count(6), 1);
        due("count(9)", x.count(9), 1);
        due("count(12)", x.count(12), 2);
    }

    private void images() {
        promise = 32;
        x = new SweptSnow();
        due("without a VALLEY", x.image(3), 0);
        due("back", x.back(3), 0);
        fresh(VILLAGE, "sweep 1", "sweep snow if own = 1");
        x.day();
        x.sweep(0, 0);
        x.note(0, 0, 0);
        x.seed(3);
        due("image", x.image(0), 1);
        all("image", -1, () -> x.image(4), () -> x.image(-1));
        promise = 33;
        all("back", -1, () -> x.back(1), () -> x.back(4), () -> x.back(-1));
        due("nothing happens", x.count(12), 2);
        x.day();
        x.pull(0);
        x.seed(4);
        x.note(-1, 0, 0);
        x.force(0);
        due("image", x.image(1), 2);
        valley("valley 1 1;step 4");
        x.feed(0, 0, 0, 0, 0);
        due("back", x.back(0), 1);
        int[] want = {3, 5, 3, 2, 2, 1, 1, 2, 1, 1, 11, 1, 0, 3, 20};
        for (int i = 0; i < want.length; i++) {
            due("count(" + i + ")", x.count(i), want[i]);
        }
        snow(0, 11, 0);
        due("who has swept", x.house(0, 2), 1);
        due("its WALL", x.step(0, 3), 1);
        due("nothing can be UNDONE", x.undo(), -1);
        x.toss(2, 1);
        due("back again", x.back(0), 1);
        snow(0, 11, 0);
        due("back", x.back(1), 2);
        due("its WALL", x.step(0, 3), -1);
        due("count(5)", x.count(5), 0);
        promise = 32;
        due("made anew", x.image(0), 2);
        x.day();
        due("made anew", x.back(0), 2);
        due("count(5)", x.count(5), 0);
    }

    /** An IMAGE has a VALLEY of its own, whatever is told, read or gone back to behind it. */
    private void imagesApart() {
        promise = 33;
        fresh(VILLAGE);
        x.image(0);
        valley("valley 9 30;step 99;step 98;house 1 1;path 0 1;wall 1 0;need 0 1");
        x.image(1);
        due("a fault", valley("valley 7 7;step 1;step 2;step 3;step 4;wall 3 2;"), -3 - 8 * 48);
        for (int round = 0; round < 2; round++) {
            due("back", x.back(0), 0);
            all("VILLAGE", 3, () -> x.count(0), () -> x.count(2), () -> x.ahead(0, 1, 0));
            all("VILLAGE", 1, () -> x.step(0, 3), () -> x.house(1, 0), () -> x.closes(1), () -> x.spare(0, 3, 0));
            due("step(1, 4)", x.step(1, 4), 5);
            snow(7, 2, 0);
            due("from the begin on", x.note(1, 1, 8), 1);
            due("ruled(0)", x.ruled(0), 1);
            due("back", x.back(1), 0);
            all("the other one", 2, () -> x.count(2), () -> x.step(0, 4), () -> x.count(9), () -> x.way(0, 1, 0));
            all("the other one", -1, () -> x.step(0, 3), () -> x.house(1, 0));
            snow(99, 98);
            due("from the begin on", x.note(1, 0, 99), 1);
            due("on day 1 it has 100", x.ruled(0), 0);
            x.image(2);
            x.back(2);
        }
    }
}
