/** Boundary cases of SNOW, DAYS and ACTS; promises 6 to 14. */
final class DayBoundaries extends Boundaries {
    @Override
    void go() {
        closed();
        taken();
        thrown();
        swept();
        housesByNumbers();
        greatest();
        withoutRule();
        night();
        lastDay();
        acts();
        force();
        step();
        house();
        day();
        sweep();
        toss();
        pull();
        thaw();
        undo();
    }

    private void closed() {
        says("A STEP with DEEP or more SNOW is CLOSED, else OPEN.");
        fresh("valley 1 5;step 4;step 5;step 6;step 0;step 99");
        int[] closed = {0, 1, 1, 0, 1};
        for (int i = 0; i < closed.length; i++) {
            due(closed[i], "step", i, 1);
        }
        due(2 + 4 + 16, "count", 7);
        valley("valley 1 1;step 0;step 1");
        due(2, "count", 7);
        valley("valley 1 30;step 29;step 30;step 31");
        due(6, "count", 7);
        call("toss", 0, 1);
        due(7, "count", 7);
    }

    private void taken() {
        says("A HOUSE that SWEEPS a STEP takes as much SNOW from it as its STRENGTH, at most what lies there;");
        fresh("valley 1 30;step 9;step 10;step 11;house 0 10;house 0 10;house 0 10");
        due(9, "sweep", 0, 0);
        due(10, "sweep", 1, 1);
        due(10, "sweep", 2, 2);
        snow(0, 0, 1);
        valley("valley 1 30;step 1;step 99;step 99;house 0 1;house 0 99;house 0 99");
        call("toss", 2, 1);
        due(1, "sweep", 0, 0);
        due(99, "sweep", 1, 1);
        due(99, "sweep", 2, 2);
        snow(0, 0, 1);
    }

    /** One throws 10 on a STEP on which so much lies. */
    private void throwOn(int lies, int want) {
        fresh("valley 1 30;step 10;step 0;house 0 10;wall 0 1");
        heap(1, lies);
        due(10, "sweep", 0, 0);
        snow(0, want);
    }

    private void thrown() {
        says("if there is a WALL, that much more lies on the STEP behind it (999 at most; that one is not swept by this);");
        throwOn(0, 10);
        throwOn(988, 998);
        throwOn(989, 999);
        throwOn(990, 999);
        throwOn(999, 999);
        due(1, "count", 8);
        due(0, "step", 1, 2);
        due(1, "day");
        snow(1, 999);
        fresh("valley 1 30;step 10;step 5;step 0;house 0 3;wall 0 1;wall 1 2");
        due(3, "sweep", 0, 0);
        snow(7, 8, 0);
        says("else it is gone.");
        fresh("valley 1 30;step 10;step 5;house 0 3;wall 1 0");
        due(3, "sweep", 0, 0);
        snow(7, 5);
        due(12, "count", 10);
    }

    private void swept() {
        says("The STEP was swept this DAY, if any was taken.");
        fresh("valley 1 30;step 99;step 1;step 0;house 0 1;house 0 1;house 0 1");
        due(0, "count", 8);
        due(1, "sweep", 0, 0);
        due(1, "count", 8);
        due(1, "sweep", 1, 1);
        due(3, "count", 8);
        due(NONE, "sweep", 2, 1);
        due(NONE, "sweep", 2, 2);
        due(3, "count", 8);
        due(1, "sweep", 2, 0);
        due(3, "count", 8);
        due(3, "day");
        snow(98, 1, 0);
    }

    private void housesByNumbers() {
        says("A DAY: (1) by the RULE IN FORCE HOUSES by numbers that have not swept this DAY, each by how all is then:");
        String valley = "valley 1 30;step 5;step 3;step 1;house 0 5;house 0 2";
        fresh(valley, "sweep snow");
        due(3, "day");
        snow(1, 2, 1);
        fresh(valley, "sweep snow");
        due(5, "sweep", 0, 0);
        due(3, "day");
        snow(1, 2, 1);
        fresh(valley, "sweep snow");
        due(2, "sweep", 1, 0);
        due(1, "day");
        snow(1, 3, 1);
        fresh(valley, "sweep snow");
        due(1, "sweep", 0, 2);
        due(2, "sweep", 1, 1);
        due(6, "day");
        snow(5, 2, 1);
        fresh("valley 1 30;step 9;step 9;house 0 1;house 0 1", "sweep 1 if swept = 0 and step = 0;sweep swept");
        due(1, "day");
        snow(8);
    }

    /** What one HOUSE sweeps of 4 STEPS with 0, 2, 3, 3 SNOW. */
    private void picks(int want, String rule) {
        fresh("valley 1 30;step 0;step 2;step 3;step 3;house 0 1", rule);
        is(want, call("day"), rule);
    }

    private void greatest() {
        says("each SWEEPS the STEP with SNOW for which the SUM of its first CLAUSE without a TEST, or whose TEST holds (0 "
            + "without), is greatest, if it is above 0, of several the least;");
        picks(2, "sweep 1");
        picks(2, "sweep 9 - step");
        picks(4, "sweep snow");
        picks(8, "sweep step");
        picks(0, "sweep 0");
        picks(0, "sweep 0 - 1");
        picks(0, "sweep snow - 3");
        picks(4, "sweep snow - 2");
        picks(0, "sweep 5 if snow = 0");
        picks(4, "sweep 1 if snow = 3");
        picks(4, "sweep 0 if step = 1;sweep 1");
        picks(2, "sweep 2 if step = 1;sweep 1");
        picks(2, "sweep 1 if step < 2;sweep 5 if step < 2;sweep 0");
        picks(8, "sweep 1 if step = 2;sweep 9 if step = 3");
        picks(2, "sweep 1;sweep 9 if step = 3");
        picks(0, "sweep 1 if step = 0 or step > 3");
    }

    private void withoutRule() {
        says("without a RULE its own one, if that is CLOSED.");
        fresh("valley 1 5;step 4;step 5;step 6;step 7;house 0 1;house 1 1;house 2 1");
        due(2 + 4, "day");
        snow(4, 5, 6, 7);
        fresh("valley 1 5;step 5;house 0 1;house 0 1");
        due(1, "day");
        snow(5);
        fresh("valley 1 5;step 9;step 9;house 1 1", "sweep 1");
        call("force", NONE);
        due(2, "day");
    }

    /** One sweeps so much of 999 before FALL of 9 comes down. */
    private void nightOn999(int strength, int want) {
        fresh("valley 9 30;step 99;step 9;house 0 " + strength, "sweep 1 if step = 0");
        heap(0, 900);
        due(1, "day");
        snow(want, 9);
    }

    private void night() {
        says("(2) The night: on each STEP that was swept this DAY FALL more comes down (999 at most).");
        nightOn999(8, 999);
        nightOn999(9, 999);
        nightOn999(10, 998);
        fresh("valley 1 30;step 5;step 5;step 5;house 0 1;house 0 1;wall 0 1");
        due(1, "sweep", 0, 0);
        due(1, "sweep", 1, 2);
        due(5, "day");
        snow(5, 6, 5);
        due(0, "day");
        snow(5, 6, 5);
        says("nothing was swept then, nobody has.");
        fresh("valley 1 30;step 5;house 0 1");
        call("sweep", 0, 0);
        due(1, "count", 8);
        due(1, "house", 0, 2);
        call("day");
        due(0, "count", 8);
        due(0, "step", 0, 2);
        due(0, "house", 0, 2);
        due(1, "sweep", 0, 0);
    }

    /** DAY 999 can't be come to by 512 calls: what is promised of it is held beyond them all the same. */
    private void lastDay() {
        says("DAY is 1 more (999 at most by hand; DAYS that are asked go on beyond);");
        fresh("valley 9 9;step 1;house 0 9", "sweep 1 if day = 1001");
        due(0, "count", 6);
        call("day");
        due(1, "count", 6);
        days(997);
        due(998, "count", 6);
        due(0, "day");
        due(999, "count", 6);
        due(20, "count", 12);
        due(NONE, "day");
        due(999, "count", 6);
        due(20, "count", 12);
        due(1, "ahead", 0, 2, 0);
        due(9, "ahead", 0, 3, 0);
        due(1002, "closes", 0);
        due(999, "ring", 0);
        due(19, "undo");
        due(998, "count", 6);
        due(0, "day");
        due(NONE, "day");
    }

    private void acts() {
        says("ACTS: a DAY; SWEEP (a HOUSE that has not swept this DAY, a STEP with SNOW); THROW (so much SNOW more on a "
            + "STEP, 1 to 99; 999 at most); PULL (the WALL of a STEP is taken away); THAW (on each STEP half of the SNOW is "
            + "gone, upwards, if there is any at all).");
        fresh(VILLAGE, "sweep 1");
        due(0, "count", 12);
        call("day");
        due(1, "count", 12);
        call("sweep", 0, 0);
        due(2, "count", 12);
        call("toss", 0, 99);
        due(3, "count", 12);
        call("pull", 0);
        due(4, "count", 12);
        call("thaw");
        due(5, "count", 12);
        call("force", NONE);
        call("seed", 5);
        call("note", 0, 0, 0);
        call("image", 0);
        rule("sweep 2");
        due(5, "count", 12);
        says("The last 20 can be UNDONE, the last first.");
        fresh("valley 1 30;step 0");
        for (int i = 1; i <= 23; i++) {
            call("toss", 0, i);
            due(Math.min(i, 20), "count", 12);
        }
        for (int i = 23; i > 3; i--) {
            due(i * (i + 1) / 2, "step", 0, 0);
            due(i - 4, "undo");
        }
        snow(1 + 2 + 3);
        due(NONE, "undo");
        snow(1 + 2 + 3);
    }

    private void force() {
        says("A RULE is IN FORCE (NONE: none): which was;");
        fresh("valley 1 30;step 5;house 0 1");
        for (int i = 0; i < 6; i++) {
            rule("sweep " + i);
        }
        due(NONE, "force", 0);
        due(0, "count", 5);
        due(0, "force", 5);
        due(5, "force", 5);
        due(5, "count", 5);
        due(1, "day");
        due(5, "force", NONE);
        due(NONE, "count", 5);
        due(0, "day");
        due(NONE, "force", NONE);
        x = new SweptSnow();
        rule("sweep 1");
        due(NONE, "force", 0);
        says("-2, and nothing happens, if there is none such.");
        scene(this::busy);
        outside(-2, "force", 0, NONE, 1, 0);
        scene(this::nothing);
        outside(-2, "force", 0, NONE, -1, 0);
    }

    private void step() {
        says("Of a STEP what 0: SNOW, 1: 1 if CLOSED, else 0, 2: 1 if swept this DAY, else 0, 3: the STEP on which is "
            + "thrown (NONE: no WALL), 4: STEPS beside it, as bits, 5: 1 if needed this DAY, else 0.");
        busy();
        int[][] want = {{0, 0, 1, 1, 2, 1}, {11, 1, 0, NONE, 5, 0}, {4, 0, 0, NONE, 2, 0}};
        for (int i = 0; i < 3; i++) {
            for (int what = 0; what < 6; what++) {
                due(want[i][what], "step", i, what);
            }
        }
        fresh("valley 1 1" + times(";step 3", 8) + ";house 0 9;need 0 7");
        call("sweep", 0, 7);
        for (int i = 0; i < 8; i++) {
            due(i == 7 ? 1 : 0, "step", i, 2);
            due(i == 7 ? 1 : 0, "step", i, 5);
        }
        says("-2 without these.");
        scene(this::busy);
        outside(-2, "step", 0, 0, 2, 0, 0);
        outside(-2, "step", 1, 0, 5, 0, 0);
        scene(this::bare);
        still(-2, "step", 0, 0);
        scene(this::nothing);
        still(-2, "step", 0, 0);
        fresh("valley 1 1" + times(";step 3", 8));
        due(3, "step", 7, 0);
        due(-2, "step", 8, 0);
    }

    private void house() {
        says("Of a HOUSE what 0: its STEP, 1: STRENGTH, 2: 1 if it has swept this DAY, else 0.");
        busy();
        int[][] want = {{0, 10, 0}, {1, 4, 1}};
        for (int i = 0; i < 2; i++) {
            for (int what = 0; what < 3; what++) {
                due(want[i][what], "house", i, what);
            }
        }
        says("NONE without these.");
        scene(this::busy);
        outside(NONE, "house", 0, 0, 1, 0, 0);
        outside(NONE, "house", 1, 0, 2, 0, 0);
        scene(this::bare);
        still(NONE, "house", 0, 0);
        scene(this::nothing);
        still(NONE, "house", 0, 0);
        fresh("valley 1 1;step 3" + times(";house 0 7", 4));
        due(7, "house", 3, 1);
        due(NONE, "house", 4, 1);
    }

    private void day() {
        says("A DAY: STEPS that were swept on it, as bits;");
        fresh("valley 1 1" + times(";step 3", 8) + ";house 7 1;house 0 1");
        due(128 + 1, "day");
        call("sweep", 0, 3);
        due(8 + 1, "day");
        fresh("valley 1 30;step 3;house 0 1");
        due(0, "day");
        bare();
        due(0, "day");
        due(1, "count", 6);
        says("NONE, and nothing happens, without a VALLEY, or on DAY 999.");
        scene(this::nothing);
        still(NONE, "day");
    }

    private void sweep() {
        says("SWEEP: how much is taken; NONE, and nothing happens, without these.");
        scene(this::busy);
        outside(NONE, "sweep", 0, 0, 1, 0, 1);
        outside(NONE, "sweep", 1, 0, 2, 0, 1);
        still(NONE, "sweep", 1, 1);
        still(NONE, "sweep", 0, 0);
        due(10, "sweep", 0, 1);
        due(NONE, "sweep", 0, 2);
        snow(0, 1, 4);
        scene(this::bare);
        still(NONE, "sweep", 0, 0);
        scene(this::nothing);
        still(NONE, "sweep", 0, 0);
        fresh("valley 1 1" + times(";step 3", 8) + times(";house 0 2", 4));
        due(2, "sweep", 3, 7);
        due(NONE, "sweep", 4, 7);
        due(NONE, "sweep", 2, 8);
    }

    private void toss() {
        says("THROW: SNOW then;");
        fresh("valley 1 1;step 0;step 99");
        due(1, "toss", 0, 1);
        due(100, "toss", 0, 99);
        due(0, "count", 8);
        heap(1, 899);
        due(998, "step", 1, 0);
        due(999, "toss", 1, 1);
        due(999, "toss", 1, 1);
        call("undo");
        call("undo");
        due(999, "toss", 1, 2);
        call("undo");
        due(999, "toss", 1, 99);
        says("NONE, and nothing happens, without these.");
        scene(this::busy);
        outside(NONE, "toss", 0, 0, 2, 0, 1);
        outside(NONE, "toss", 1, 1, 99, 0, 1);
        scene(this::bare);
        still(NONE, "toss", 0, 1);
        scene(this::nothing);
        still(NONE, "toss", 0, 1);
    }

    private void pull() {
        says("PULL: on which was thrown; NONE, and nothing happens, without a WALL.");
        scene(this::busy);
        still(NONE, "pull", 1);
        still(NONE, "pull", 2);
        outside(NONE, "pull", 0, 0, 0, 0);
        due(1, "pull", 0);
        due(NONE, "step", 0, 3);
        due(NONE, "pull", 0);
        due(4, "count", 12);
        scene(this::bare);
        still(NONE, "pull", 0);
        scene(this::nothing);
        still(NONE, "pull", 0);
        fresh("valley 1 9;step 9;step 9;house 0 1;wall 0 1;wall 1 0");
        due(0, "pull", 1);
        due(1, "step", 0, 3);
        call("undo");
        due(0, "step", 1, 3);
        due(1, "pull", 0);
        call("sweep", 0, 0);
        snow(8, 9);
    }

    private void thaw() {
        says("THAW: SNOW of all STEPS then;");
        fresh("valley 1 9;step 0;step 1;step 2;step 3;step 98;step 99;step 99");
        heap(6, 900);
        due(0 + 0 + 1 + 1 + 49 + 49 + 499, "thaw");
        snow(0, 0, 1, 1, 49, 49, 499);
        due(0, "count", 8);
        fresh("valley 1 9" + times(";step 5", 8));
        due(8 * 2, "thaw");
        snow(2, 2, 2, 2, 2, 2, 2, 2);
        says("NONE, and nothing happens, if there is none.");
        fresh("valley 1 9;step 0;step 1");
        due(0, "thaw");
        due(1, "count", 12);
        due(NONE, "thaw");
        due(1, "count", 12);
        scene(() -> fresh("valley 1 9;step 0;step 0"));
        still(NONE, "thaw");
        scene(this::bare);
        still(NONE, "thaw");
        scene(this::nothing);
        still(NONE, "thaw");
    }

    private void undo() {
        says("The last ACT is UNDONE: how many more can be;");
        busy();
        due(2, "undo");
        counts(3, 5, 3, 2, 2, 1, 1, 2, 0, 1, 15, 2, 2, 77, 17);
        due(0, "house", 1, 2);
        due(1, "undo");
        snow(3, 8, 0);
        due(0, "undo");
        counts(3, 5, 3, 2, 2, 1, 0, 1, 0, 0, 9, 2, 0, 77, 17);
        snow(7, 2, 0);
        undoGoesRound();
        undoOfBefore();
        says("NONE, and nothing happens: none can.");
        scene(() -> fresh(VILLAGE));
        still(NONE, "undo");
        scene(this::nothing);
        still(NONE, "undo");
        scene(() -> {
            busy();
            call("back", 2);
        });
        still(NONE, "undo");
        scene(() -> {
            busy();
            call("valley");
        });
        still(NONE, "undo");
    }

    /** ACTS behind an undo take the places of those undone. */
    private void undoGoesRound() {
        fresh("valley 1 30;step 0");
        for (int i = 0; i < 25; i++) {
            call("toss", 0, 1);
        }
        for (int i = 0; i < 5; i++) {
            call("undo");
        }
        due(15, "count", 12);
        for (int i = 0; i < 7; i++) {
            call("toss", 0, 1);
        }
        due(20, "count", 12);
        snow(27);
        for (int i = 19; i >= 0; i--) {
            due(i, "undo");
        }
        snow(7);
        due(NONE, "undo");
    }

    /** What was swept on the DAY ahead comes back with a DAY that is undone. */
    private void undoOfBefore() {
        fresh("valley 1 30;step 9;step 9;house 0 1", "sweep 1 if before = 1");
        call("sweep", 0, 1);
        due(2, "day");
        call("sweep", 0, 0);
        due(1, "day");
        due(3, "undo");
        due(2, "undo");
        due(2, "day");
    }
}
