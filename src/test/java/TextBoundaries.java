/** Boundary cases of the TAPE, of the languages of VALLEYS and RULES, and of their FAULTS; promises 1 to 5. */
final class TextBoundaries extends Boundaries {
    private static final String IF = "sweep 1 if ";
    // 32768 is 2 to the 15th: so this is 2 to the 60th.
    private static final String HUGE = "32768*32768*32768*32768";

    @Override
    void go() {
        newObject();
        feeding();
        ending();
        lengthOfText();
        clausesOfValley();
        measures();
        stepsTold();
        housesTold();
        pathsTold();
        wallsTold();
        needsTold();
        numbersOfSteps();
        rulesTold();
        testsTold();
        signsTold();
        sumsTold();
        numbersTold();
        wordsOfHouses();
        wordsOfSteps();
        wordsOfSweeping();
        wordsOfNeeds();
        wordsOfClosed();
        wordOfDay();
        division();
        goingRound();
        blanks();
        depth();
        parts();
        faultsOfBytes();
        faultsOfNumbers();
        faultsOfDepth();
        faultsOfParts();
        faultsOfClauses();
        leastFault();
        valleyTaken();
        valleyRefused();
        ruleTaken();
        ruleRefused();
    }

    /** The sign ^ stands at the place of the FAULT, and is no part of the text. */
    private void faulty(String kind, String marked, int fault) {
        int place = marked.indexOf('^');
        tell(marked.substring(0, place) + marked.substring(place + 1));
        is(-2 - (1 + 8 * place + fault), call(kind), kind + " of " + marked);
    }

    private void faultyValley(String marked, int fault) {
        faulty("valley", marked, fault);
    }

    private void faultyRule(String marked, int fault) {
        faulty("rule", marked, fault);
    }

    private void valleyIs(int steps, String text) {
        is(steps, valley(text), "valley of " + text);
    }

    /** A RULE that is right; of a new object, as one has 6 at most. */
    private void ruleIsRight(String text) {
        x = new SweptSnow();
        is(0, rule(text), "rule of " + text);
    }

    /** For which of 4 STEPS with 4, 5, 6, 7 SNOW it holds: each of 4 HOUSES sweeps one of them bare. */
    private int holdsOf(String test) {
        fresh("valley 1 30;step 4;step 5;step 6;step 7" + times(";house 0 99", 4), IF + test);
        return call("day");
    }

    private void holds(int want, String test) {
        is(want, holdsOf(test), test);
    }

    private void newObject() {
        says("No VALLEY, no RULES, none IN FORCE.");
        x = new SweptSnow();
        counts(0, 0, 0, 0, 0, NONE, 0, 0, 0, 0, 0, 0, 0, 0, 0);
        due(-2, "force", 0);
        due(NONE, "force", NONE);
        due(NONE, "day");
        for (int k = 0; k < 4; k++) {
            due(NONE, "back", k);
        }
        due(NONE, "undo");
    }

    private void feeding() {
        says("Twenty bytes come behind the TAPE, of each number the highest first: how many it has;");
        x = new SweptSnow();
        due(20, "feed", four("vall"), four("ey 3"), four(" 5;s"), four("tep "), four("12;s"));
        due(40, "feed", four("tep "), four("34;h"), four("ouse"), four(" 1 5"), four("6   "));
        due(2, "valley");
        snow(12, 34);
        due(56, "house", 0, 1);
        for (int place = 0; place < 20; place++) {
            faultyValley(times(" ", place) + "^" + (char) 255 + times(" ", 19 - place), 0);
        }
        says("NONE, and none comes, if it would have more than 400.");
        for (int length = 380; length <= 400; length++) {
            int had = length;
            scene(() -> {
                x = new SweptSnow();
                tell(filled("valley 1 1;step 5", had));
            });
            if (length == 380) {
                due(400, "feed", 0, 0, 0, 0, 0);
            } else {
                still(NONE, "feed", LOWEST, HIGHEST, -1, 0, 1);
            }
        }
    }

    private void ending() {
        says("The TAPE has its first n bytes alone: n;");
        x = new SweptSnow();
        due(0, "end", 0);
        tell("valley 1 1;step 57;step 8");
        due(25, "end", 25);
        due(25, "count", 14);
        due(17, "end", 17);
        due(17, "count", 14);
        due(37, "feed", four(";ste"), four("p 9 "), four("    "), four("    "), four("    "));
        due(2, "valley");
        snow(5, 9);
        tell(filled("valley 1 1", 400));
        due(400, "end", 400);
        due(399, "end", 399);
        cutOff();
        tell(filled("valley 1 1", 399));
        says("NONE, and nothing happens, if it has not so many, or n is below 0.");
        due(NONE, "end", 400);
        due(399, "count", 14);
        scene(this::busy);
        due(17, "end", 17);
        outside(NONE, "end", 0, 0, 17, 0);
        scene(() -> x = new SweptSnow());
        outside(NONE, "end", 0, 0, 0, 0);
    }

    /** Bytes behind the end stand for nothing, though they were fed. */
    private void cutOff() {
        cutTo(5, "valley", "valley 1 1", 0);
        cutTo(7, "valley", "valley 1 1", 7);
        cutTo(8, "rule", "sweep day", 6);
        cutTo(13, "rule", "sweep 1 if 1<=1", 13);
        cutTo(13, "rule", "sweep 1 if 1>=1", 13);
        cutTo(11, "rule", "sweep 1 if 1=1", 11);
    }

    private void cutTo(int length, String kind, String text, int place) {
        tell(text);
        due(length, "end", length);
        is(-2 - (1 + 8 * place), call(kind), kind + " of the first " + length + " bytes of " + text);
    }

    private void lengthOfText() {
        says("A VALLEY is a text of at most 400 bytes:");
        x = new SweptSnow();
        valleyIs(1, filled("valley 1 1;step 5", 400));
        valleyIs(1, filled("valley 1 1", 394) + ";step5");
        due(5, "step", 0, 0);
        faultyValley(filled("valley 1 1", 399) + "^x", 0);
        faultyValley(filled("valley 1 1", 399) + ";^", 0);
        faultyValley(filled("valley 1 1;", 399) + "^s", 0);
        faultyValley(filled("valley 1 1;step 5;step", 399) + "^p", 0);
        ruleIsRight(filled("sweep 1", 397) + "+99");
        faultyRule(filled("sweep 1", 399) + "^x", 0);
        faultyRule(filled("sweep 1", 399) + "+^", 0);
        faultyRule(filled("sweep 1+", 399) + "^s", 0);
        faultyRule(filled("sweep 1 if 1", 399) + "<^", 0);
        faultyRule(filled("sweep 1 if", 399) + "[^", 0);
        ruleIsRight(filled("sweep 1+", 397) + "day");
    }

    private void clausesOfValley() {
        says("CLAUSE { ; CLAUSE }, 40 at most:");
        x = new SweptSnow();
        valleyIs(0, "valley 1 1");
        String full = "valley 1 1;step 5" + times(";need 0 0", 38);
        valleyIs(1, full);
        valleyIs(2, "valley 1 1;step 5" + times(";need 0 0", 37) + ";step 6");
        faultyValley(full + ";^need 0 0", 4);
        faultyValley(full + ";^step 5", 4);
        faultyValley(full + " ;  ^valley 1 1", 4);
        faultyValley("^;valley 1 1", 0);
        faultyValley("valley 1 1;^;step 5", 0);
        faultyValley("valley 1 1;^", 0);
        faultyValley("valley 1 1 ^step 5", 0);
        faultyValley("valley 1 1^,step 5", 0);
    }

    private void measures() {
        says("valley NUMBER NUMBER (FALL 1 to 9; DEEP 1 to 30; once, the first CLAUSE) |");
        x = new SweptSnow();
        valleyIs(0, "valley 1 30");
        counts(1, 30);
        valleyIs(0, "valley 9 1");
        counts(9, 1);
        faultyValley("valley ^0 1", 1);
        faultyValley("valley ^10 1", 1);
        faultyValley("valley 1 ^0", 1);
        faultyValley("valley 1 ^31", 1);
        faultyValley("valley 1 1;^valley 1 1", 4);
        faultyValley("valley 1 1;step 5;^valley 1 1", 4);
        for (String other : new String[] {"step 5", "house 0 1", "path 0 1", "wall 0 1", "need 0 0"}) {
            faultyValley("^" + other + ";valley 1 1", 4);
        }
        counts(9, 1);
    }

    private void stepsTold() {
        says("step NUMBER (SNOW 0 to 99) |");
        x = new SweptSnow();
        valleyIs(2, "valley 1 1;step 0;step 99");
        snow(0, 99);
        faultyValley("valley 1 1;step ^100", 1);
        faultyValley("valley 1 1;step ^99999", 1);
        faultyValley("valley 1 1;step ^-1", 0);
        faultyValley("valley 1 1;step 5 ^5", 0);
        faultyValley("valley 1 1;step^", 0);
    }

    private void housesTold() {
        says("house NUMBER NUMBER (its own STEP, that was told; STRENGTH 1 to 99) |");
        x = new SweptSnow();
        valleyIs(2, "valley 1 1;step 5;house 0 1;step 6;house 1 99;house 0 50");
        due(0, "house", 0, 0);
        due(1, "house", 0, 1);
        due(1, "house", 1, 0);
        due(99, "house", 1, 1);
        due(0, "house", 2, 0);
        faultyValley("valley 1 1;house ^0 1", 1);
        faultyValley("valley 1 1;step 5;house ^1 1;step 6", 1);
        faultyValley("valley 1 1" + times(";step 5", 8) + ";house ^8 1", 1);
        faultyValley("valley 1 1;step 5;house 0 ^0", 1);
        faultyValley("valley 1 1;step 5;house 0 ^100", 1);
        faultyValley("valley 1 1;step 5;house 0^", 0);
        valleyIs(8, "valley 1 1" + times(";step 5", 8) + ";house 7 1");
        due(7, "house", 0, 0);
    }

    private void pathsTold() {
        says("path NUMBER NUMBER (two STEPS that were told, side by side; told already: nothing new) |");
        x = new SweptSnow();
        valleyIs(3, "valley 1 1;step 5;step 5;step 5;path 0 2");
        due(4, "step", 0, 4);
        due(0, "step", 1, 4);
        due(1, "step", 2, 4);
        valleyIs(3, "valley 1 1;step 5;step 5;step 5;path 0 2;path 0 2;path 2 0");
        due(4, "step", 0, 4);
        due(0, "step", 1, 4);
        due(1, "step", 2, 4);
        faultyValley("valley 1 1;step 5;step 5;path ^2 0;step 5", 1);
        faultyValley("valley 1 1;step 5;step 5;path 0 ^2;step 5", 1);
        faultyValley("valley 1 1;path ^0 1", 1);
        faultyValley("valley 1 1;step 5;step 5;path 1 ^1", 1);
        valleyIs(8, "valley 1 1" + times(";step 5", 8) + ";path 7 0;path 6 7");
        due(64 + 1, "step", 7, 4);
        due(128, "step", 0, 4);
    }

    private void wallsTold() {
        says("wall NUMBER NUMBER (what is swept from the first STEP is thrown on the second one; of a first one the last "
            + "told) |");
        x = new SweptSnow();
        valleyIs(3, "valley 1 9;step 5;step 0;step 0;house 0 3;wall 0 1");
        due(1, "step", 0, 3);
        due(NONE, "step", 1, 3);
        due(3, "sweep", 0, 0);
        snow(2, 3, 0);
        valleyIs(3, "valley 1 9;step 5;step 0;step 0;house 0 3;wall 0 1;wall 1 0;wall 0 2");
        due(2, "step", 0, 3);
        due(0, "step", 1, 3);
        due(3, "sweep", 0, 0);
        snow(2, 0, 3);
        faultyValley("valley 1 1;step 5;step 5;wall ^2 0;step 5", 1);
        faultyValley("valley 1 1;step 5;step 5;wall 0 ^2;step 5", 1);
        faultyValley("valley 1 1;step 5;step 5;wall 1 ^1", 1);
        valleyIs(8, "valley 1 1" + times(";step 5", 8) + ";wall 7 0;wall 0 7");
        due(0, "step", 7, 3);
        due(7, "step", 0, 3);
    }

    private void needsTold() {
        says("need NUMBER NUMBER (a DAY, 0 to 30; a STEP that was told; told already: nothing new).");
        x = new SweptSnow();
        valleyIs(2, "valley 1 9;step 1;step 1;need 0 1;need 30 0;need 30 0;need 30 1;need 0 1");
        due(2, "count", 9);
        call("day");
        due(0, "count", 9);
        days(28);
        due(0, "count", 9);
        call("day");
        due(3, "count", 9);
        call("day");
        due(0, "count", 9);
        faultyValley("valley 1 1;step 5;need ^31 0", 1);
        faultyValley("valley 1 1;step 5;need 30 ^1;step 5", 1);
        faultyValley("valley 1 1;need 0 ^0", 1);
        faultyValley("valley 1 1;step 5;need 30^", 0);
    }

    private void numbersOfSteps() {
        says("STEPS 0 to 7, HOUSES 0 to 3, in the order told.");
        fresh("valley 1 9;step 1;house 0 11;step 2;step 3;house 2 12;step 4;step 5;house 1 13;step 6;step 7;step 8;house 7 14");
        snow(1, 2, 3, 4, 5, 6, 7, 8);
        int[] own = {0, 2, 1, 7};
        for (int i = 0; i < 4; i++) {
            due(own[i], "house", i, 0);
            due(11 + i, "house", i, 1);
        }
        due(8, "count", 2);
        due(4, "count", 3);
        due(-2, "step", 8, 0);
        due(NONE, "house", 4, 0);
        faultyValley("valley 1 1" + times(";step 0", 8) + ";^step 0", 4);
        faultyValley("valley 1 1;step 0" + times(";house 0 1", 4) + ";^house 0 1", 4);
        says("It is DAY 0.");
        fresh("valley 1 9;step 1");
        due(0, "count", 6);
        days(3);
        due(3, "count", 6);
        valley("valley 1 9;step 1");
        due(0, "count", 6);
    }

    private void rulesTold() {
        says("RULES 0 to 5: texts likewise, 12 CLAUSES at most: sweep SUM [ if TEST ].");
        x = new SweptSnow();
        for (int i = 0; i < 6; i++) {
            is(i, rule("sweep " + i), "rule " + i);
        }
        is(NONE, rule("sweep 6"), "a seventh rule");
        ruleIsRight("sweep 1");
        ruleIsRight("sweep 1 if 1 = 1");
        ruleIsRight(times("sweep 1;", 11) + "sweep 1");
        ruleIsRight(times("sweep 1 if 1=1;", 11) + "sweep 1 if 1=1");
        faultyRule(times("sweep 1;", 12) + "^sweep 1", 4);
        faultyRule(times("sweep 1 ; ", 12) + "  ^sweep 1", 4);
        fresh("valley 1 9;step 1;step 1;house 0 1", times("sweep 1 if 1=2;", 11) + "sweep step");
        due(2, "day");
        faultyRule("^", 0);
        faultyRule("^if 1 = 1", 0);
        faultyRule("sweep ^if 1 = 1", 0);
        faultyRule("sweep 1 if^", 0);
        faultyRule("sweep 1;^", 0);
        faultyRule("^;sweep 1", 0);
        faultyRule("sweep 1 ^sweep 1", 0);
        faultyRule("sweep 1 if 1 = 1 ^if 1 = 1", 0);
    }

    private void testsTold() {
        says("TEST: PART { or PART }. PART: FACT { and FACT }.");
        holds(15, "1=1");
        holds(0, "1=2");
        holds(1 + 8, "snow=4 or snow=7");
        holds(0, "snow=4 and snow=7");
        holds(15, "1=1 or 1=2 and 1=2");
        holds(15, "1=2 and 1=2 or 1=1");
        holds(0, "1=2 and 1=1 or 1=1 and 1=2");
        holds(15, "1=2 or 1=2 or 1=2 or 1=1");
        holds(0, "1=1 and 1=1 and 1=1 and 1=2");
        holds(15, "1=1 or [1=2]");
        holds(15, "1=1 or [1=2 and 1=1]");
        holds(0, "1=2 and [1=1 or 1=1]");
        faultyRule(IF + "1=1 or^", 0);
        faultyRule(IF + "1=1 and ^or 1=1", 0);
        faultyRule(IF + "^or 1=1", 0);
        faultyRule(IF + "^and 1=1", 0);
        faultyRule(IF + "1=1 ^1=1", 0);
    }

    private void signsTold() {
        says("FACT: not FACT | [ TEST ] (these brackets are signs) | SUM SIGN SUM, SIGN one of < <= = >= >.");
        holds(1, "snow < 5");
        holds(3, "snow <= 5");
        holds(2, "snow = 5");
        holds(14, "snow >= 5");
        holds(12, "snow > 5");
        holds(14, "not snow < 5");
        holds(12, "not snow <= 5");
        holds(13, "not snow = 5");
        holds(1, "not snow >= 5");
        holds(3, "not snow > 5");
        holds(2, "snow <= 5 and snow >= 5");
        holds(6, "snow < 7 and snow > 4");
        holds(2, "not not snow = 5");
        holds(9, "not [snow = 5 or snow = 6]");
        holds(13 & 7, "not snow = 5 and snow < 7");
        holds(1 + 4, "[snow = 4 or snow = 6] and [snow < 7]");
        faultyRule(IF + "not^", 0);
        faultyRule(IF + "[1=1^", 0);
        faultyRule(IF + "1=1^]", 0);
        faultyRule(IF + "[^]", 0);
        faultyRule(IF + "[1^] = 1", 0);
        faultyRule(IF + "1^", 0);
        faultyRule(IF + "1 ^and 1=1", 0);
        faultyRule(IF + "1=1^=1", 0);
        faultyRule(IF + "1<=^=1", 0);
        faultyRule(IF + "1=^<1", 0);
        faultyRule(IF + "1<^>1", 0);
        faultyRule(IF + "1>^>1", 0);
        faultyRule(IF + "1^!=1", 0);
        faultyRule(IF + "1 = ^[1=1]", 0);
        faultyRule(IF + "1 = ^not 1", 0);
    }

    private void sumsTold() {
        says("SUM: TERM { (+ or -) TERM }. TERM: VALUE { (* or / or %) VALUE }.");
        holds(15, "2+3*4 = 14");
        holds(15, "2*3+4 = 10");
        holds(15, "20-3-4 = 13");
        holds(15, "20-3*4 = 8");
        holds(15, "20/3*2 = 12");
        holds(15, "20*3%7 = 4");
        holds(15, "20%7*3 = 18");
        holds(15, "1+2*3%4-9/2*5 = 0-17");
        faultyRule("sweep ^-1", 0);
        faultyRule("sweep ^+1", 0);
        faultyRule("sweep 1+^", 0);
        faultyRule("sweep 1*^*1", 0);
        faultyRule("sweep 1+^-1", 0);
        faultyRule("sweep ^(1)", 0);
        faultyRule("sweep ^[1]", 0);
        faultyRule("sweep 1^\\1", 0);
    }

    private void numbersTold() {
        says("VALUE: NUMBER (1 to 5 digits, as far as digits go on) | WORD.");
        ruleIsRight("sweep 0");
        ruleIsRight("sweep 99999");
        ruleIsRight("sweep 00000");
        holds(15, "99999 - 99998 = 00001");
        holds(2, "snow = 00005");
        faultyRule("sweep ^100000", 1);
        faultyRule("sweep ^000001", 1);
        faultyRule("sweep 1 ^2", 0);
        faultyRule("sweep 99999 ^9", 0);
        faultyRule("sweep 5^snow", 0);
        valleyIs(1, "valley 00001 00030;step 00099");
        faultyValley("valley ^000001 1", 1);
        faultyValley("valley 1 1;step ^000000", 1);
    }

    private void wordsOfHouses() {
        says("WORDS (small letters, as far as these go on) of a HOUSE and a STEP that has SNOW:");
        String words = "house step own snow strength swept before closed needed next beside day";
        for (String word : words.split(" ")) {
            ruleIsRight("sweep " + word);
            ruleIsRight("sweep " + word + "+" + word + " if " + word + "=" + word);
            faultyRule("sweep ^" + word + "a", 0);
            faultyRule("sweep ^" + word + "z", 0);
            faultyRule("sweep ^" + word.substring(0, word.length() - 1), 0);
            faultyRule("sweep ^" + word.substring(0, 1).toUpperCase() + word.substring(1), 0);
            faultyRule("sweep " + word + "^5", 0);
        }
        faultyRule("sweep ^snowif 1=1", 0);
        faultyRule("^sweepsnow", 0);
        faultyRule("sweep ^path", 0);
        fresh("valley 1 9;step 0;step 0;house 0 9", "sweep 1");
        due(0, "day");
        says("house, step, own (1 if it is the HOUSE's own, else 0), snow, strength,");
        fresh("valley 1 9" + times(";step 5", 8) + ";house 7 1;house 0 99;house 0 1;house 3 98",
            "sweep 1 if house + step = 3");
        due(1 + 2 + 4 + 8, "day");
        call("force", rule("sweep 1 if step = 7"));
        due(128, "day");
        call("force", rule("sweep own"));
        due(128 + 1 + 8, "day");
        call("force", rule("sweep 1 if own = 0 and step > 0 and house = 0 or own > 1"));
        due(2, "day");
        call("force", rule("sweep 1 if strength = 99 and step = 4 or strength = 1 and step = 5"));
        due(32 + 16, "day");
    }

    private void wordsOfSteps() {
        fresh("valley 1 9;step 99;step 1;step 0;house 0 1", "sweep 1 if snow = 0", "sweep 1 if snow = 1",
            "sweep 1 if snow = 999");
        heap(0, 900);
        due(1, "day");
        call("undo");
        call("force", 1);
        due(2, "day");
        call("undo");
        call("force", 0);
        due(0, "day");
    }

    private void wordsOfSweeping() {
        says("swept (1 if it was swept this DAY, else 0),");
        String valley = "valley 1 30;step 9;step 9;house 0 1;house 0 1;wall 0 1";
        fresh(valley, "sweep 1 if swept = 1");
        due(0, "day");
        due(1, "sweep", 0, 0);
        due(1, "day");
        due(0, "day");
        fresh(valley, "sweep 1 if swept = 1");
        due(1, "sweep", 0, 1);
        due(2, "day");
        snow(9, 9 - 1 - 1 + 1);
        fresh(valley, "sweep 1 if swept = 0");
        due(1, "sweep", 0, 0);
        due(3, "day");
        says("before (1 if it was on the DAY ahead, else 0),");
        fresh(valley, "sweep 1 if before = 1");
        due(0, "day");
        due(1, "sweep", 0, 0);
        due(1, "day");
        due(1, "day");
        call("force", NONE);
        due(0, "day");
        call("force", 0);
        due(0, "day");
        fresh(valley, "sweep 1 if before = 0");
        due(1, "sweep", 0, 1);
        due(3, "day");
        due(0, "day");
    }

    private void wordsOfNeeds() {
        says("needed (1 if it is needed this DAY, else 0),");
        fresh("valley 1 30;step 9;step 9;house 0 1;need 1 1", "sweep needed", "sweep 1 if needed = 0 and step = 1");
        due(2, "day");
        due(0, "day");
        due(2, "day");
        call("undo");
        call("undo");
        call("force", 0);
        due(2, "day");
        due(0, "day");
        fresh("valley 1 30;step 9;step 9;house 0 1;need 0 1", "sweep 1 if needed = 1");
        due(2, "day");
        says("next (in how many DAYS it is needed next, this one 0; 99 without),");
        String valley = "valley 1 30;step 9;step 9;step 9;house 0 1;need 0 0;need 2 0;need 30 1";
        nextIs(valley, 0, 0, 30, 99);
        nextIs(valley, 1, 1, 29, 99);
        nextIs(valley, 2, 0, 28, 99);
        nextIs(valley, 3, 99, 27, 99);
        nextIs(valley, 29, 99, 1, 99);
        nextIs(valley, 30, 99, 0, 99);
        nextIs(valley, 31, 99, 99, 99);
    }

    /** What next tells of three STEPS on a DAY. */
    private void nextIs(String valley, int day, int... next) {
        for (int step = 0; step < next.length; step++) {
            fresh(valley);
            days(day);
            call("force", rule("sweep 1 if step = " + step + " and next = " + next[step]));
            due(1 << step, "day");
        }
    }

    private void wordsOfClosed() {
        says("closed (STEPS that are),");
        String two = ";house 0 99;house 0 99";
        fresh("valley 1 5;step 5;step 6;step 4" + two, "sweep 1 if closed = 2;sweep 2 if closed = 1 and step = 2");
        due(1 + 4, "day");
        fresh("valley 1 5;step 4;step 4" + two, "sweep 1 if closed = 0 and step = 1");
        due(2, "day");
        fresh("valley 1 1" + times(";step 1", 8) + ";house 0 1", "sweep 1 if closed = 8 and step = 7");
        due(128, "day");
        says("beside (STEPS beside it that are closed),");
        StringBuilder star = new StringBuilder("valley 1 5" + times(";step 5", 8) + ";house 0 1");
        for (int i = 1; i < 8; i++) {
            star.append(";path 0 ").append(i);
        }
        fresh(star.toString(), "sweep 1 if beside = 7");
        due(1, "day");
        fresh(star.toString(), "sweep 1 if beside = 1 and step > 1");
        due(4, "day");
        fresh("valley 1 5;step 5;step 4;step 5;path 0 1;house 0 1", "sweep 1 if beside = 0");
        due(1, "day");
        fresh("valley 1 5;step 5;step 4;step 5;path 0 1;house 0 1", "sweep beside");
        due(2, "day");
    }

    private void wordOfDay() {
        says("day.");
        fresh("valley 1 30;step 9;step 9;house 0 1", "sweep 1 if day = step");
        due(1, "day");
        due(2, "day");
        due(0, "day");
        fresh("valley 1 30;step 9;house 0 1", "sweep 1 if day = 400");
        days(400);
        due(1, "day");
        due(0, "day");
    }

    private void division() {
        says("/ is towards 0, % its rest, both 0 by 0;");
        holds(15, "7/2 = 3 and 8/2 = 4 and 7%2 = 1 and 8%2 = 0 and 1/2 = 0 and 1%2 = 1");
        holds(15, "7/0 = 0 and 7%0 = 0 and 0/0 = 0 and 0%0 = 0 and 0/7 = 0 and 0%7 = 0");
        holds(1, "7/step = 0 and 7%step = 0");
        // 8 times 2 to the 60th goes round to the lowest number; by 2 to the 60th that is -8.
        String below = HUGE + "*8/32768/32768/32768/32768";
        holds(15, below + " = 0-8");
        holds(15, below + "/3 = 0-2");
        holds(15, below + "%3 = 0-2");
        holds(15, below + "/9 = 0");
        holds(15, below + "%9 = 0-8");
        holds(15, below + "/0 = 0");
        holds(15, below + "%0 = 0");
        holds(15, HUGE + "*8/1 = " + HUGE + "*8");
        holds(15, HUGE + "*8%1 = 0");
    }

    private void goingRound() {
        says("all goes round in 64 bits.");
        holds(15, HUGE + "*4 > 0");
        holds(15, HUGE + "*4+" + HUGE + "*4 < 0");
        holds(15, HUGE + "*4+" + HUGE + "*4-1 > 0");
        holds(15, HUGE + "*8 < 0");
        holds(15, HUGE + "*8-1 > 0");
        holds(15, HUGE + "*16 = 0");
        holds(15, HUGE + "*16+5 = 5");
        fresh("valley 1 30;step 1;step 2;step 3;house 0 1", "sweep " + HUGE + "*4+" + HUGE + "*4-1 if step = 1;sweep 99999");
        due(2, "day");
        call("force", rule("sweep " + HUGE + "*8 if step = 1;sweep 1 if step = 2"));
        due(4, "day");
    }

    private void blanks() {
        says("Blanks (32) stand between as one likes.");
        x = new SweptSnow();
        valleyIs(2, "valley1 1;step5;step6;house0 9;path0 1;wall0 1;need0 1");
        valleyIs(2, "   valley   1   1   ;   step   5   ;   step   6   ");
        ruleIsRight("sweep1*2+snow-3if[not snow<=5and 1=1]or not[2>=1]");
        ruleIsRight("  sweep  1  *  2  if  [  not  snow  <=  5  ]  ;  sweep  1  ");
        for (char sign : new char[] {0, 9, 10, 13, 31, 33, 127, 160}) {
            faultyValley("valley^" + sign + "1 1", 0);
            faultyValley("valley 1 1^" + sign, 0);
            faultyValley("^" + sign + "valley 1 1", 0);
            faultyRule("sweep^" + sign + "1", 0);
            faultyRule("sweep 1^" + sign, 0);
        }
        faultyValley("valley 1 1;^st ep 5", 0);
        faultyValley("valley 1 1;step 5 ^0", 0);
        faultyRule(IF + "1 < ^= 1", 0);
        faultyRule(IF + "1 > ^= 1", 0);
        faultyRule(IF + "^no t 1=1", 0);
    }

    private void depth() {
        says("[ and not lie within one another 10 deep at most;");
        ruleIsRight(IF + times("[", 10) + "1=1" + times("]", 10));
        ruleIsRight(IF + times("not ", 10) + "1=1");
        ruleIsRight(IF + times("not[", 5) + "1=1" + times("]", 5));
        ruleIsRight(IF + times("[", 10) + "1=1" + times("]", 10) + " and " + times("[not ", 5) + "1=1" + times("]", 5)
            + " or " + times("not ", 10) + "1=1;" + IF + times("[", 10) + "1=1" + times("]", 10));
        ruleIsRight(IF + times("[", 9) + "not 1=1 and not 1=1 and [1=1] or [1=1]" + times("]", 9));
        faultyRule(IF + times("[", 10) + "^[1=1" + times("]", 11), 2);
        faultyRule(IF + times("[", 10) + "1=1 and ^[1=1" + times("]", 11), 2);
        faultyRule(IF + times("[", 10) + "^not 1=1" + times("]", 10), 2);
        faultyRule(IF + times("not ", 10) + "^not 1=1", 2);
        faultyRule(IF + times("not ", 10) + "^[1=1]", 2);
        faultyRule(IF + "[1=1] and " + times("not[", 5) + "^not 1=1" + times("]", 5), 2);
        holds(2, times("[", 10) + "snow=5" + times("]", 10));
        holds(2, times("not ", 10) + "snow=5");
        holds(13, times("not ", 9) + "snow=5");
    }

    private void parts() {
        says("at most 60 VALUES (of SUMS) and FACTS made of a SIGN, together.");
        ruleIsRight("sweep 1" + times("+1", 59));
        faultyRule("sweep 1" + times("+1", 59) + "+^1", 3);
        ruleIsRight("sweep snow" + times("*snow", 59));
        faultyRule("sweep snow" + times("*snow", 59) + "*^snow", 3);
        ruleIsRight("sweep 1" + times("+1", 56) + " if not [not 1=1]");
        faultyRule("sweep 1" + times("+1", 57) + " if 1=^1", 3);
        faultyRule("sweep 1" + times("+1", 58) + " if 1^=1", 3);
        faultyRule("sweep 1" + times("+1", 58) + " if 1 ^<= 1", 3);
        faultyRule("sweep 1" + times("+1", 59) + " if ^1=1", 3);
        ruleIsRight("sweep 1" + times("+1", 57) + ";sweep 1;sweep 1");
        faultyRule("sweep 1" + times("+1", 58) + ";sweep 1;sweep ^1", 3);
        ruleIsRight("sweep 1 if 1=1" + times(" or 1=1", 18) + ";sweep 1+1");
        faultyRule("sweep 1 if 1=1" + times(" or 1=1", 18) + " or 1=^1", 3);
        fresh("valley 1 9;step 1;step 1;house 0 1", "sweep step" + times("+0", 59));
        due(2, "day");
    }

    private void faultsOfBytes() {
        says("FAULTS, the first along the text, 1 + 8 * its place and:");
        x = new SweptSnow();
        tell("x");
        due(-3, "valley");
        tell("x");
        due(-3, "rule");
        tell(" x");
        due(-11, "valley");
        tell(" x");
        due(-11, "rule");
        faultyValley("valley ^0 0;step 100;;", 1);
        faultyValley("^step 0;valley 0 0", 4);
        faultyRule("sweep ^123456 if x", 1);
        faultyRule("sweep 1 ^1;" + times("sweep 1;", 12), 0);
        says("0 a byte or WORD that can't stand there, or the end (behind the last byte);");
        faultyValley("^", 0);
        faultyValley("    ^", 0);
        faultyValley("valley   ^", 0);
        faultyValley("valley 1 1;step^", 0);
        faultyValley("valley 1 1;step  ^;step 5", 0);
        faultyValley("valley 1 1;^stop 5", 0);
        faultyValley("valley 1 1;^sweep 5", 0);
        faultyValley("valley 1 1;^5", 0);
        faultyValley("valley 1 1;step ^five", 0);
        faultyRule("    ^", 0);
        faultyRule("sweep    ^", 0);
        faultyRule("sweep 1 if 1 =   ^", 0);
        faultyRule("^step 5", 0);
        faultyRule("sweep 1 ^or 1=1", 0);
        faultyRule("sweep ^sweep", 0);
        faultyRule("sweep 1 if ^if 1=1", 0);
    }

    private void faultsOfNumbers() {
        says("1 a NUMBER of more digits, or not as told (of path, wall the second STEP, if it is the first);");
        x = new SweptSnow();
        faultyValley("valley 1 1;step ^000005", 1);
        faultyValley("valley 1 1;step ^" + times("9", 300), 1);
        faultyRule("sweep ^" + times("1", 394), 1);
        faultyRule(IF + "snow = ^123456", 1);
        faultyValley("valley 1 1;step 5;step 5;path 0 ^0", 1);
        faultyValley("valley 1 1;step 5;step 5;wall 0 ^0", 1);
        faultyValley("valley 1 1;step 5;step 5;path 1 ^00001", 1);
        faultyValley("valley 1 1;step 5;step 5;path ^2 2", 1);
        faultyValley("valley 1 1;step 5;step 5;wall ^2 2", 1);
        valleyIs(1, "valley 1 1;step 5;house 0 1;need 0 0");
        valleyIs(2, "valley 1 1;step 5;step 5;house 1 1;need 1 1");
    }

    private void faultsOfDepth() {
        says("2 too deep (at the sign that opens, or the word not);");
        x = new SweptSnow();
        faultyRule(IF + times("[", 10) + "^[", 2);
        faultyRule(IF + times("[ ", 10) + "  ^[", 2);
        faultyRule(IF + times("not ", 10) + "^not", 2);
        faultyRule(IF + times("[ ", 10) + "  ^not", 2);
        faultyRule(IF + times("[", 10) + "^[[[[[", 2);
    }

    private void faultsOfParts() {
        says("3 one VALUE or FACT too many (at its first byte; of a FACT at its SIGN);");
        x = new SweptSnow();
        faultyRule("sweep 1" + times("+1", 59) + "+  ^99999", 3);
        faultyRule("sweep 1" + times("+1", 59) + "+^strength", 3);
        faultyRule("sweep 1" + times("+1", 58) + " if 1  ^>=1", 3);
        faultyRule("sweep 1" + times("+1", 58) + " if snow^>1", 3);
    }

    private void faultsOfClauses() {
        says("4 one CLAUSE too many, a second valley, another CLAUSE ahead of it, a ninth STEP, a fifth HOUSE (at its "
            + "first byte).");
        x = new SweptSnow();
        faultyValley("valley 1 1;step 5" + times(";need 0 0", 38) + " ;   ^need 99 99", 4);
        faultyRule(times("sweep 1;", 12) + "   ^sweep", 4);
        faultyValley("valley 1 1;  ^valley 0 0", 4);
        faultyValley("  ^need 99 99", 4);
        faultyValley("  ^house", 4);
        faultyValley("valley 1 1" + times(";step 0", 8) + ";  ^step 100", 4);
        faultyValley("valley 1 1;step 0" + times(";house 0 1", 4) + ";  ^house 9 0", 4);
    }

    private void leastFault() {
        says("Of one place the least.");
        x = new SweptSnow();
        faultyValley("valley 1 1;step 5" + times(";need 0 0", 38) + ";^nead 0 0", 0);
        faultyValley("valley 1 1;step 5" + times(";need 0 0", 38) + ";^", 0);
        faultyRule(times("sweep 1;", 12) + "^swap 1", 0);
        faultyRule(times("sweep 1;", 12) + "^", 0);
        faultyValley("^stop 5;valley 1 1", 0);
        faultyValley("valley 1 1 ^123456", 0);
        faultyRule("sweep 1 ^123456", 0);
        faultyRule("sweep 1" + times("+1", 59) + "+^123456", 1);
        faultyRule("sweep 1" + times("+1", 59) + "+^snows", 0);
        faultyRule("sweep 1" + times("+1", 59) + "+^", 0);
        faultyRule("sweep 1" + times("+1", 58) + " if 1^", 0);
        faultyRule("sweep 1" + times("+1", 58) + " if 1 ^and", 0);
        faultyRule(IF + times("[", 10) + "1 ^[", 0);
        faultyRule(IF + times("[", 10) + "1=1 ^not", 0);
    }

    private void valleyTaken() {
        says("The TAPE, which is empty then, is the VALLEY in place of the one there was (no NOTES, nothing to be UNDONE; "
            + "the RULE IN FORCE and x stay): how many STEPS;");
        busy();
        due(1, "valley");
        counts(2, 2, 1, 0, 2, 1, 0, 1, 0, 0, 9, 0, 0, 77, 0);
        due(NONE, "step", 0, 3);
        due(0, "step", 0, 4);
        due(NONE, "undo");
        due(0, "back", 2);
        busy();
        tell("valley 1 1");
        due(0, "valley");
        x = new SweptSnow();
        tell("valley 1 1" + times(";step 1", 8));
        due(8, "valley");
    }

    private void valleyRefused() {
        says("-2 - its FAULT, and all stays.");
        scene(() -> {
            busy();
            call("end", 0);
        });
        tell("valley 9 9;step 1;step 100");
        due(-2 - (1 + 8 * 23 + 1), "valley");
        same("a faulty valley");
        scene(() -> {
            busy();
            call("end", 0);
        });
        due(-3, "valley");
        same("an empty valley");
        scene(() -> x = new SweptSnow());
        due(-3, "valley");
        same("an empty valley on a new object");
        says("The TAPE, which is empty then,");
        busy();
        tell("valley 0 1");
        call("valley");
        due(0, "count", 14);
        due(NONE, "end", 1);
    }

    private void ruleTaken() {
        says("The TAPE, which is empty then, is a RULE: its number;");
        busy();
        is(2, rule("sweep 3"), "a third rule");
        counts(3, 5, 3, 2, 3, 1, 1, 2, 1, 1, 15, 2, 3, 77, 0);
        due(NONE, "end", 1);
        is(3, rule("sweep 3"), "the same once more");
        due(4, "count", 4);
    }

    private void ruleRefused() {
        says("-2 - its FAULT;");
        scene(() -> {
            busy();
            call("end", 0);
        });
        tell("sweep 1;sweep");
        due(-2 - (1 + 8 * 13), "rule");
        same("a faulty rule");
        says("NONE, and nothing happens: there are 6.");
        scene(() -> {
            busy();
            for (int i = 0; i < 4; i++) {
                rule("sweep 1");
            }
            tell("sweep 7");
        });
        due(6, "count", 4);
        still(NONE, "rule");
        due(NONE, "rule");
        due(7, "count", 14);
        tell("nothing of a rule");
        due(NONE, "rule");
        due(17, "count", 14);
        due(1, "force", 5);
        due(-2, "force", 6);
    }
}
