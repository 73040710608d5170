/** Boundary cases of what is asked, of NOTES, DRAWS and IMAGES; promises 15 to 33. */
final class AskedBoundaries extends Boundaries {
    @Override
    void go() {
        nothingChanges();
        byRule();
        ahead();
        stays();
        closes();
        ring();
        ringRefused();
        spare();
        spareRefused();
        figure();
        figureRefused();
        way();
        wayRefused();
        pacts();
        pactsRefused();
        thrownOn();
        best();
        might();
        note();
        ruled();
        look();
        draws();
        storms();
        stormsRefused();
        count();
        images();
        back();
        backRefused();
    }

    private void nothingChanges() {
        says("(By what is asked nothing changes;");
        scene(this::busy);
        unchanged("step", 0, 0);
        unchanged("house", 0, 0);
        unchanged("ahead", 0, 100, 0);
        unchanged("ahead", 0, 100, 1);
        unchanged("stays", 60);
        unchanged("closes", 2);
        unchanged("ring", 0);
        unchanged("ring", 1);
        unchanged("spare", 1, 10, 0);
        unchanged("figure", 5, 1);
        unchanged("way", 0, 2, 0);
        unchanged("pacts", 30, 0);
        unchanged("pacts", 30, 1);
        unchanged("pacts", 30, 2);
        unchanged("thrownOn", 1, 60, 0);
        unchanged("best", 0, 30, 0);
        unchanged("might", 0, 30);
        unchanged("ruled", 0);
        unchanged("look", 60, 0);
        unchanged("storms", 10, 60, 100, 0);
        unchanged("count", 10);
    }

    private void byRule() {
        says("DAYS go on by the RULE IN FORCE.)");
        fresh("valley 1 5;step 9;step 9;house 0 9", "sweep 1 if step = 1");
        due(9, "ahead", 0, 1, 0);
        due(1, "ahead", 1, 1, 0);
        call("force", NONE);
        due(1, "ahead", 0, 1, 0);
        due(9, "ahead", 1, 1, 0);
        call("force", 0);
        call("sweep", 0, 0);
        due(1, "ahead", 0, 1, 0);
        due(9, "ahead", 1, 1, 0);
        due(1, "ahead", 1, 2, 0);
    }

    private void ahead() {
        says("AHEAD n DAYS (0 to 100): SNOW of a STEP; how many are CLOSED.");
        fresh("valley 9 9;step 1;step 8;house 0 9", "sweep 1 if day = 99");
        due(1, "ahead", 0, 0, 0);
        due(0, "ahead", 0, 0, 1);
        due(1, "ahead", 0, 99, 0);
        due(0, "ahead", 0, 99, 1);
        due(9, "ahead", 0, 100, 0);
        due(1, "ahead", 0, 100, 1);
        due(0, "ahead", 0, 99, 1);
        says("AHEAD what 0: SNOW, 1: how many are CLOSED (step is not asked).");
        for (int step : new int[] {-1, 2, 8, LOWEST, HIGHEST}) {
            due(1, "ahead", step, 100, 1);
        }
        says("NONE without these, or a VALLEY.");
        scene(this::busy);
        outside(NONE, "ahead", 0, 0, 2, 0, 1, 0);
        outside(NONE, "ahead", 1, 0, 100, 0, 1, 0);
        outside(NONE, "ahead", 1, 0, 100, 0, 1, 1);
        outside(NONE, "ahead", 2, 0, 1, 0, 1, 0);
        scene(this::bare);
        still(NONE, "ahead", 0, 0, 0);
        still(0, "ahead", 0, 0, 1);
        still(0, "ahead", 0, 100, 1);
        scene(this::nothing);
        still(NONE, "ahead", 0, 0, 0);
        still(NONE, "ahead", 0, 0, 1);
    }

    private void stays() {
        says("STAYS in n DAYS (1 to 60): STEPS that are OPEN at the begin of each of them, and behind the last.");
        fresh("valley 9 9;step 1;house 0 9", "sweep 1 if day = 59");
        due(1, "stays", 1);
        due(1, "stays", 59);
        due(0, "stays", 60);
        fresh("valley 1 9;step 9;step 8;house 0 9");
        due(2, "stays", 1);
        call("day");
        due(3, "stays", 1);
        due(3, "stays", 60);
        // It is CLOSED at the begin of the second DAY alone.
        fresh("valley 5 9;step 8;house 0 1;house 0 9", "sweep 1 if house = 0 and day = 0 or house = 1 and day = 1");
        due(0, "stays", 1);
        due(0, "stays", 2);
        days(2);
        due(1, "stays", 60);
        fresh("valley 9 9" + times(";step 8", 8));
        due(255, "stays", 60);
        says("STAYS, as bits; NONE without these, or a VALLEY.");
        scene(this::busy);
        outside(NONE, "stays", 0, 1, 60, 1);
        scene(this::bare);
        still(0, "stays", 60);
        scene(this::nothing);
        still(NONE, "stays", 1);
    }

    private void closes() {
        says("CLOSES of a STEP: the first DAY, this one the first, of 100, at whose begin it is CLOSED.");
        fresh("valley 9 9;step 9;step 1;house 0 9", "sweep 1 if step = 1 and day = 98");
        due(0, "closes", 0);
        due(99, "closes", 1);
        call("day");
        due(1, "closes", 0);
        due(99, "closes", 1);
        fresh("valley 9 9;step 8;house 0 9", "sweep 1 if day = 0");
        due(1, "closes", 0);
        says("CLOSES; -2: on none of these;");
        fresh("valley 9 9;step 1;house 0 9", "sweep 1 if day = 99");
        due(-2, "closes", 0);
        call("day");
        due(100, "closes", 0);
        says("NONE without that STEP.");
        scene(this::busy);
        outside(NONE, "closes", 0, 0, 2, 0);
        scene(this::bare);
        still(NONE, "closes", 0);
        scene(this::nothing);
        still(NONE, "closes", 0);
    }

    /** RING of 8 STEPS with 9 SNOW, of which one has 1 more from one DAY on, and is as it was behind another. */
    private void ringOf(int more, int less, int first, int later) {
        fresh("valley 2 30" + times(";step 9", 8) + ";house 0 1;house 0 3",
            "sweep 1 if house = 0 and day = " + more + " or house = 1 and day = " + less);
        due(first, "ring", 0);
        due(later, "ring", 1);
    }

    private void ring() {
        says("RING: the first DAY, this one the first, of 60, at whose begin all SNOW lies as at the begin of a later one, "
            + "60 DAYS from now at most; how much later the first such is.");
        fresh("valley 1 30;step 9;step 8;step 7");
        due(0, "ring", 0);
        due(1, "ring", 1);
        ringOf(0, 0, 1, 1);
        ringOf(0, 1, 0, 2);
        ringOf(0, 59, 0, 60);
        ringOf(0, 60, 1, 1);
        ringOf(1, 59, 0, 1);
        // 2 more on each DAY up to one.
        fresh("valley 9 1;step 9;house 0 7", "sweep 1 if day < 59");
        due(59, "ring", 0);
        due(1, "ring", 1);
        fresh("valley 9 1;step 9;house 0 7", "sweep 1 if day < 60");
        due(-2, "ring", 0);
        due(-2, "ring", 1);
        call("day");
        due(60, "ring", 0);
        due(1, "ring", 1);
        says("RING what 0: the DAY, 1: how much later; -2: there is none.");
        // The second STEP alone never lies as it did.
        fresh("valley 9 1;step 9;step 9;house 1 7", "sweep own");
        due(-2, "ring", 0);
        due(-2, "ring", 1);
        fresh("valley 9 30;step 9;house 0 7");
        days(3);
        due(3, "ring", 0);
        due(1, "ring", 1);
    }

    private void ringRefused() {
        says("NONE for others, or without a VALLEY.");
        scene(this::busy);
        outside(NONE, "ring", 0, 0, 1, 0);
        scene(this::bare);
        still(0, "ring", 0);
        still(1, "ring", 1);
        scene(this::nothing);
        still(NONE, "ring", 0);
        still(NONE, "ring", 1);
    }

    private void spared(int many, int row, int step, int n) {
        due(many, "spare", step, n, 0);
        due(row, "spare", step, n, 1);
    }

    private void spare() {
        says("SPARE of a STEP for n DAYS (1 to 10): the fewest DAYS of these on which it is swept bare (this STEP alone, "
            + "whoever does; nothing is thrown anywhere; FALL comes down on it in the night behind each of these, nothing "
            + "in others), so that it is OPEN on each of these DAYS on which it is needed, behind the sweeping: how many; "
            + "of several rows the one that is least as bits (DAY 0 from now the least bit).");
        fresh("valley 1 5;step 5;step 4;need 9 0;need 9 1;need 0 1;wall 0 1");
        spared(0, 0, 0, 9);
        spared(1, 1, 0, 10);
        spared(0, 0, 1, 10);
        // FALL alone is DEEP, so it is swept on the very DAYS on which it is needed.
        fresh("valley 5 5;step 5;step 4;need 0 0;need 9 0;need 0 1;need 9 1");
        spared(1, 1, 0, 1);
        spared(1, 1, 0, 9);
        spared(2, 1 + 512, 0, 10);
        spared(0, 0, 1, 10);
        fresh("valley 4 5;step 5;need 0 0;need 9 0");
        spared(1, 1, 0, 10);
        // What is swept bare is OPEN, though a first flake closes it.
        fresh("valley 1 1;step 5;need 0 0");
        spared(1, 1, 0, 1);
        spared(1, 1, 0, 2);
        fresh("valley 9 5;step 5;need 0 0;need 1 0;need 2 0;need 3 0;need 4 0;need 5 0;need 6 0;need 7 0;need 8 0;need 9 0");
        spared(1, 1, 0, 1);
        spared(10, 1023, 0, 10);
        call("day");
        spared(9, 511, 0, 10);
        spared(1, 1, 0, 1);
        // What comes down on a STEP that was swept by hand is not asked for.
        fresh("valley 9 5;step 1;house 0 1;need 1 0");
        call("sweep", 0, 0);
        spared(0, 0, 0, 2);
        fresh("valley 1 5;step 5;need 30 0");
        days(20);
        spared(0, 0, 0, 10);
        call("day");
        spared(1, 1, 0, 10);
        days(9);
        spared(1, 1, 0, 1);
        call("day");
        spared(0, 0, 0, 10);
    }

    private void spareRefused() {
        says("SPARE what 0: how many, 1: the row. NONE without these.");
        scene(this::busy);
        outside(NONE, "spare", 0, 0, 2, 0, 1, 0);
        outside(NONE, "spare", 1, 1, 10, 0, 1, 0);
        outside(NONE, "spare", 2, 0, 1, 0, 1, 0);
        scene(this::bare);
        still(NONE, "spare", 0, 1, 0);
        scene(this::nothing);
        still(NONE, "spare", 0, 1, 0);
    }

    private void figured(int many, int set, int steps) {
        due(many, "figure", steps, 0);
        due(set, "figure", steps, 1);
    }

    private void figure() {
        says("FIGURE of a set of STEPS: the fewest STEPS, each with SNOW, to be swept bare this DAY (all at once: what lies "
            + "on each now is thrown over its WALL, and lies there then, also where it was swept), so that behind the night "
            + "(FALL on these, and on those swept already) just the STEPS of the set are CLOSED: how many; of several the "
            + "least as bits.");
        fresh("valley 1 5;step 5;step 4;step 0");
        figured(0, 0, 1);
        figured(1, 1, 0);
        figured(-2, -2, 2);
        figured(-2, -2, 4);
        fresh("valley 1 2;step 5");
        figured(1, 1, 0);
        fresh("valley 1 1;step 5");
        figured(-2, -2, 0);
        fresh("valley 5 5;step 5;step 4;step 0");
        figured(1, 2, 3);
        figured(-2, -2, 0);
        figured(-2, -2, 7);
        // 3 are thrown either way, and lie there also where it was swept: 3 and FALL of 2.
        fresh("valley 2 5;step 3;step 3;wall 0 1;wall 1 0");
        figured(2, 3, 3);
        figured(1, 1, 2);
        figured(1, 2, 1);
        figured(0, 0, 0);
        // Each of both closes the third; the least is the first one.
        fresh("valley 1 5;step 2;step 2;step 3;wall 0 2;wall 1 2");
        figured(1, 1, 4);
        // 4 and FALL are DEEP where it was swept by hand.
        fresh("valley 1 5;step 9;house 0 5");
        call("sweep", 0, 0);
        figured(0, 0, 1);
        figured(1, 1, 0);
        fresh("valley 1 5;step 9;house 0 6");
        call("sweep", 0, 0);
        figured(0, 0, 0);
        figured(-2, -2, 1);
        fresh("valley 1 5" + times(";step 5", 8));
        figured(0, 0, 255);
        figured(8, 255, 0);
        figured(7, 127, 128);
        fresh("valley 1 5;step 99;step 99;wall 0 1;wall 1 0");
        heap(0, 900);
        heap(1, 900);
        figured(0, 0, 3);
        figured(1, 1, 2);
        figured(-2, -2, 0);
    }

    private void figureRefused() {
        says("FIGURE what 0: how many, 1: the set; -2: by none. NONE without these (a set of STEPS there are, 0 too), or a "
            + "VALLEY.");
        scene(this::busy);
        outside(NONE, "figure", 0, 0, 7, 0, 0);
        outside(NONE, "figure", 1, 0, 1, 2, 0);
        scene(this::bare);
        still(0, "figure", 0, 0);
        still(0, "figure", 0, 1);
        still(NONE, "figure", 1, 0);
        scene(this::nothing);
        still(NONE, "figure", 0, 0);
        fresh("valley 1 5" + times(";step 5", 8));
        due(0, "figure", 255, 0);
        due(NONE, "figure", 256, 0);
    }

    private void wayIs(int closed, int steps, int next, int from, int to) {
        due(closed, "way", from, to, 0);
        due(steps, "way", from, to, 1);
        due(next, "way", from, to, 2);
    }

    private void way() {
        says("WAY from a STEP to another one: by PATHS, so that fewest CLOSED ones are come to, both ends too; of several "
            + "the fewest STEPS; the next STEP on the first such (the least at each step).");
        String row = ";path 0 1;path 1 2;path 2 3;path 3 4;path 4 5;path 5 6;path 6 7";
        fresh("valley 1 5" + times(";step 5", 8) + row);
        wayIs(8, 8, 1, 0, 7);
        wayIs(8, 8, 6, 7, 0);
        fresh("valley 1 5" + times(";step 4", 8) + row);
        wayIs(0, 8, 1, 0, 7);
        // A long way around one that is CLOSED.
        fresh("valley 1 5;step 0;step 5" + times(";step 4", 6)
            + ";path 0 1;path 1 7;path 0 2;path 2 3;path 3 4;path 4 5;path 5 6;path 6 7");
        wayIs(0, 7, 2, 0, 7);
        wayIs(0, 7, 6, 7, 0);
        call("toss", 4, 1);
        wayIs(1, 3, 1, 0, 7);
        call("toss", 0, 5);
        call("toss", 7, 1);
        wayIs(3, 3, 1, 0, 7);
        fresh("valley 1 5;step 0;step 0;step 0;step 0;path 3 2;path 2 0;path 3 1;path 1 0");
        wayIs(0, 3, 1, 0, 3);
        wayIs(0, 3, 1, 3, 0);
        says("WAY what 0: CLOSED ones, 1: STEPS (both ends too), 2: the next STEP (NONE: it is there); -2: there is none.");
        fresh("valley 1 5;step 5;step 4;step 4;path 0 1");
        wayIs(1, 2, 1, 0, 1);
        wayIs(1, 2, 0, 1, 0);
        wayIs(1, 1, NONE, 0, 0);
        wayIs(0, 1, NONE, 1, 1);
        wayIs(0, 1, NONE, 2, 2);
        wayIs(-2, -2, -2, 0, 2);
        wayIs(-2, -2, -2, 2, 0);
    }

    private void wayRefused() {
        says("-3 without these.");
        scene(this::busy);
        outside(-3, "way", 0, 0, 2, 0, 2, 0);
        outside(-3, "way", 1, 0, 2, 0, 2, 0);
        outside(-3, "way", 2, 0, 2, 0, 2, 0);
        scene(this::bare);
        still(-3, "way", 0, 0, 0);
        scene(this::nothing);
        still(-3, "way", 0, 0, 0);
    }

    private void pactsAre(int many, int least, int more, int n) {
        due(many, "pacts", n, 0);
        due(least, "pacts", n, 1);
        due(more, "pacts", n, 2);
    }

    private void pacts() {
        says("PACTS of HOUSES for n DAYS (1 to 30; no RULE; nobody else SWEEPS): sets of HOUSES that SWEEP their own STEP "
            + "each DAY (by numbers, if it has SNOW; who has swept this DAY, too), the others never:");
        fresh("valley 3 5;step 7;house 0 10", "sweep 1");
        pactsAre(1, 1, 1, 1);
        pactsAre(1, 1, 30, 30);
        // What has no SNOW is not swept: to sweep and not to are the same.
        fresh("valley 1 5;step 0;house 0 1");
        pactsAre(2, 0, 0, 1);
        pactsAre(2, 0, 0, 30);
        fresh("valley 1 5;step 1;house 0 1");
        pactsAre(1, 0, 1, 1);
        // The first one leaves nothing for the second, which has swept none then.
        fresh("valley 3 5;step 7;house 0 10;house 0 10");
        pactsAre(2, 1, 3, 1);
        // 3 are left by hand: these and FALL close it, if it is not swept once more.
        fresh("valley 3 5;step 7;house 0 4");
        call("sweep", 0, 0);
        pactsAre(1, 1, 1, 1);
        says("a HOUSE has 2 for each DAY behind whose night its own STEP is OPEN, less 1 for each DAY on which it swept: sets "
            + "from which no HOUSE would have more by doing the other thing alone: how many; the least as bits; by how much "
            + "all have more together in the best set than in the worst.");
        fresh("valley 5 5;step 5;house 0 9");
        pactsAre(1, 0, 1, 1);
        pactsAre(1, 0, 30, 30);
        fresh("valley 4 5;step 5;house 0 9");
        pactsAre(1, 1, 1, 1);
        fresh("valley 4 5;step 4;house 0 9");
        pactsAre(1, 0, 1, 1);
        fresh("valley 3 5;step 7;step 7;step 7;step 7;house 0 9;house 1 9;house 2 9;house 3 9");
        pactsAre(1, 15, 4, 1);
        pactsAre(1, 15, 120, 30);
        fresh("valley 1 5;step 0" + times(";house 0 1", 4));
        pactsAre(16, 0, 0, 30);
    }

    private void pactsRefused() {
        says("PACTS what 0: how many, 1: the least (-2: there is none), 2: how much more. NONE without these, or a VALLEY.");
        // None: 2 0; the first: 1 0; the second: 0 1; both: 1 -1.
        fresh("valley 1 6;step 4;step 6;house 0 7;house 1 3;wall 0 1;wall 1 0");
        pactsAre(0, -2, 2, 1);
        scene(this::busy);
        outside(NONE, "pacts", 0, 1, 30, 1, 0);
        outside(NONE, "pacts", 1, 0, 2, 1, 0);
        scene(this::bare);
        still(1, "pacts", 30, 0);
        still(0, "pacts", 30, 1);
        still(0, "pacts", 30, 2);
        scene(this::nothing);
        still(NONE, "pacts", 1, 0);
        still(NONE, "pacts", 1, 1);
        still(NONE, "pacts", 1, 2);
    }

    private void thrownOn() {
        says("THROWN on a STEP in n DAYS (1 to 60): how much is thrown there over WALLS; how much comes down there by night "
            + "(what 999 cuts off, too).");
        fresh("valley 9 1;step 0;step 99;house 1 99;wall 1 0", "sweep 1 if step = 1 and day = 59", "sweep 1 if day = 0");
        call("force", 0);
        due(0, "thrownOn", 0, 59, 0);
        due(99, "thrownOn", 0, 60, 0);
        due(0, "thrownOn", 0, 60, 1);
        due(0, "thrownOn", 1, 59, 1);
        due(9, "thrownOn", 1, 60, 1);
        due(0, "thrownOn", 1, 60, 0);
        call("force", 1);
        due(99, "thrownOn", 0, 1, 0);
        due(9, "thrownOn", 1, 1, 1);
        call("force", 0);
        call("sweep", 0, 1);
        due(0, "thrownOn", 0, 1, 0);
        due(9, "thrownOn", 1, 1, 1);
        fresh("valley 9 1;step 99;step 99;house 1 9;wall 1 0", "sweep step");
        heap(0, 900);
        due(9, "thrownOn", 0, 1, 0);
        due(540, "thrownOn", 0, 60, 0);
        fresh("valley 9 1;step 99;house 0 1", "sweep 1");
        heap(0, 900);
        due(9, "thrownOn", 0, 1, 1);
        due(540, "thrownOn", 0, 60, 1);
        fresh("valley 9 1;step 5" + times(";step 0", 7) + ";house 0 5;wall 0 7", "sweep 1 if day = 0;sweep step");
        due(5, "thrownOn", 7, 1, 0);
        due(0, "thrownOn", 7, 1, 1);
        due(9, "thrownOn", 7, 2, 1);
        says("THROWN what 0: over WALLS, 1: by night. NONE without these.");
        scene(this::busy);
        outside(NONE, "thrownOn", 0, 0, 2, 0, 1, 0);
        outside(NONE, "thrownOn", 1, 1, 60, 0, 1, 0);
        outside(NONE, "thrownOn", 2, 0, 1, 0, 1, 0);
        scene(this::bare);
        still(NONE, "thrownOn", 0, 1, 0);
        scene(this::nothing);
        still(NONE, "thrownOn", 0, 1, 0);
    }

    private void bestIs(int step, int many, int house, int n) {
        due(step, "best", house, n, 0);
        due(many, "best", house, n, 1);
    }

    private void best() {
        says("BEST of a HOUSE that has not swept this DAY for n DAYS (1 to 30): the STEP with SNOW to SWEEP now, or none, so "
            + "that fewest STEPS are CLOSED then; of several none, then the least; how many.");
        fresh("valley 1 5;step 0;step 6;house 0 9", "sweep 1 if day = 29");
        bestIs(1, 0, 0, 1);
        bestIs(1, 0, 0, 29);
        bestIs(NONE, 0, 0, 30);
        fresh("valley 1 5;step 6;step 6;house 0 9", "sweep 0");
        bestIs(0, 1, 0, 1);
        fresh("valley 1 5;step 4;step 4;house 0 9", "sweep 0");
        bestIs(NONE, 0, 0, 1);
        fresh("valley 5 5;step 5;step 4;house 0 9", "sweep 0");
        bestIs(NONE, 1, 0, 1);
        fresh("valley 1 5;step 5;step 5;step 0;house 0 9;wall 0 2;wall 1 0", "sweep 0");
        bestIs(1, 1, 0, 1);
        fresh("valley 1 5" + times(";step 4", 7) + ";step 5;house 0 9", "sweep 0");
        bestIs(7, 0, 0, 1);
        bestIs(7, 0, 0, 30);
        // Who sweeps the first STEP can't spoil the second by the RULE; but it must have SNOW.
        fresh("valley 2 3;step 1;step 2;house 0 1", "sweep 1 if step = 1");
        bestIs(0, 0, 0, 1);
        fresh("valley 2 3;step 0;step 2;house 0 1", "sweep 1 if step = 1");
        bestIs(NONE, 1, 0, 1);
        says("BEST what 0: the STEP (NONE: none), 1: how many. -2 without these.");
        scene(this::busy);
        still(-2, "best", 1, 1, 0);
        still(-2, "best", 1, 1, 1);
        outside(-2, "best", 0, 0, 1, 0, 1, 0);
        outside(-2, "best", 1, 1, 30, 0, 1, 0);
        outside(-2, "best", 2, 0, 1, 0, 1, 0);
        scene(this::bare);
        still(-2, "best", 0, 1, 0);
        scene(this::nothing);
        still(-2, "best", 0, 1, 0);
    }

    private void might() {
        says("MIGHT of a HOUSE for n DAYS (1 to 30): the least STRENGTH, 1 to 99, in place of what it has, by which its own "
            + "STEP is OPEN at the begin of each later one of them, and behind the last.");
        fresh("valley 5 5;step 4;house 0 1", "sweep 1 if day = 29 and strength < 9");
        due(1, "might", 0, 1);
        due(1, "might", 0, 29);
        due(9, "might", 0, 30);
        // It may be CLOSED now, but not at the begin of the second DAY, though another HOUSE opens it then.
        fresh("valley 5 9;step 9;house 0 1;house 0 9", "sweep 1 if house = 0 and day = 0 or house = 1 and day = 1");
        due(6, "might", 0, 1);
        due(6, "might", 0, 2);
        due(6, "might", 0, 30);
        due(1, "house", 0, 1);
        fresh("valley 1 5;step 99;house 0 50");
        due(96, "might", 0, 1);
        call("toss", 0, 3);
        due(99, "might", 0, 1);
        says("MIGHT; -2: by none; NONE without these.");
        call("toss", 0, 1);
        due(-2, "might", 0, 1);
        scene(this::busy);
        outside(NONE, "might", 0, 0, 1, 0, 1);
        outside(NONE, "might", 1, 1, 30, 0, 1);
        scene(this::bare);
        still(NONE, "might", 0, 1);
        scene(this::nothing);
        still(NONE, "might", 0, 1);
    }

    private void note() {
        says("NOTES 0 to 9, told: at the begin of the n-th DAY of all (0 to 60) a STEP had so much SNOW (0 to 999).");
        fresh("valley 1 30;step 0;step 0");
        due(1, "note", 0, 0, 0);
        due(2, "note", 60, 1, 999);
        for (int i = 3; i <= 10; i++) {
            due(i, "note", 0, 0, 0);
        }
        due(-2, "note", 0, 0, 0);
        due(10, "count", 11);
        says("A NOTE (n NONE: there are none then, 0): how many;");
        due(0, "note", NONE, 0, 0);
        due(0, "count", 11);
        due(0, "note", NONE, LOWEST, HIGHEST);
        due(1, "note", 0, 1, 0);
        due(0, "note", NONE, 99, 9999);
        says("-2, and nothing happens, without these, or if there are 10.");
        scene(this::busy);
        outside(-2, "note", 0, NONE, 60, 0, 0, 0);
        outside(-2, "note", 1, 0, 2, 0, 0, 0);
        outside(-2, "note", 2, 0, 999, 0, 0, 0);
        scene(() -> {
            busy();
            for (int i = 0; i < 8; i++) {
                call("note", 1, 0, 3);
            }
        });
        due(10, "count", 11);
        still(-2, "note", 0, 0, 0);
        scene(this::bare);
        still(-2, "note", 0, 0, 0);
        still(0, "note", NONE, 0, 0);
        scene(this::nothing);
        still(-2, "note", 0, 0, 0);
        still(0, "note", NONE, 0, 0);
    }

    private void ruledIs(int many, int first) {
        due(many, "ruled", 0);
        due(first, "ruled", 1);
    }

    private void ruled() {
        says("RULED: which of the RULES, and of none, so that from the begin on, all as the text told it, all NOTES are so: "
            + "how many; the first (none ahead of 0, told as NONE).");
        fresh("valley 9 9;step 1;house 0 9", "sweep 1 if day = 59", "sweep 1 if day = 60", "sweep 0");
        ruledIs(4, NONE);
        days(2);
        call("toss", 0, 50);
        call("note", 0, 0, 1);
        ruledIs(4, NONE);
        call("note", 60, 0, 9);
        ruledIs(1, 0);
        call("note", NONE, 0, 0);
        call("note", 60, 0, 1);
        ruledIs(3, NONE);
        fresh("valley 9 9;step 9;house 0 9", "sweep 1 if day = 59", "sweep 0");
        call("pull", 0);
        call("note", 1, 0, 9);
        ruledIs(3, NONE);
        fresh("valley 1 9;step 9;house 0 9", "sweep 0", "sweep 1", "sweep 0", "sweep 0", "sweep 1", "sweep 1");
        ruledIs(7, NONE);
        call("note", 1, 0, 9);
        ruledIs(3, 0);
        call("note", NONE, 0, 0);
        call("note", 1, 0, 1);
        ruledIs(4, NONE);
        fresh("valley 1 9;step 9;house 0 9");
        ruledIs(1, NONE);
        says("RULED what 0: how many, 1: the first (NONE: none; -2: there is none such).");
        call("note", 0, 0, 8);
        ruledIs(0, -2);
        call("note", NONE, 0, 0);
        ruledIs(1, NONE);
        call("note", 1, 0, 1);
        call("note", 1, 0, 2);
        ruledIs(0, -2);
        says("-3 for others, or without a VALLEY.");
        scene(this::busy);
        outside(-3, "ruled", 0, 0, 1, 0);
        scene(this::bare);
        still(1, "ruled", 0);
        still(NONE, "ruled", 1);
        scene(this::nothing);
        still(-3, "ruled", 0);
        still(-3, "ruled", 1);
    }

    private void lookIs(int step, int many, int n) {
        due(step, "look", n, 0);
        due(many, "look", n, 1);
    }

    private void look() {
        says("LOOK at the n-th DAY: the STEP by whose SNOW these part best: the most alike are fewest, of several the least; "
            + "how many.");
        fresh("valley 9 30;step 1;step 1;house 0 9", "sweep 1 if day = 59 and step = 1");
        lookIs(0, 2, 0);
        lookIs(0, 2, 59);
        lookIs(1, 1, 60);
        fresh("valley 9 30;step 1;step 1;house 0 9");
        lookIs(0, 1, 0);
        lookIs(0, 1, 60);
        fresh("valley 9 30;step 1;step 1;house 0 9", "sweep 0", "sweep 0", "sweep 0", "sweep 0", "sweep 0", "sweep 0");
        lookIs(0, 7, 0);
        lookIs(0, 7, 60);
        // On DAY 1 of 9 SNOW 9, 8 and 7 are left on the first STEP, 9, 7 and 8 on the third.
        fresh("valley 1 30;step 9;step 9;step 9;house 0 2;house 0 3", "sweep 1 if step = house * 2",
            "sweep 1 if step = 2 - house * 2");
        lookIs(0, 3, 0);
        lookIs(0, 1, 1);
        // 9, 9 and 8 on the first STEP, 9, 8 and 7 on the third.
        fresh("valley 1 30;step 9;step 9;step 9;house 0 2;house 0 3", "sweep 1 if house = 0 and step = 2",
            "sweep 1 if step = house * 2");
        lookIs(0, 3, 0);
        lookIs(2, 1, 1);
        call("note", 1, 0, 9);
        lookIs(2, 1, 60);
        call("note", 1, 2, 8);
        lookIs(0, 1, 60);
        says("LOOK (n 0 to 60) what 0: the STEP, 1: how many; -2: no RULE is so, or there are no STEPS.");
        call("note", 1, 0, 8);
        lookIs(-2, -2, 0);
        lookIs(-2, -2, 60);
        scene(this::bare);
        still(-2, "look", 0, 0);
        still(-2, "look", 60, 1);
        says("NONE without these, or a VALLEY.");
        still(NONE, "look", 61, 0);
        scene(this::busy);
        outside(NONE, "look", 0, 0, 60, 0, 0);
        outside(NONE, "look", 1, 0, 1, 0, 0);
        scene(this::nothing);
        still(NONE, "look", 0, 0);
        still(NONE, "look", 0, 1);
    }

    /** Of 8 STEPS FALL closes just the one that has 1 SNOW: which is come down on in n DAYS; NONE: none. */
    private void comesOn(int want, int x, int n, int p) {
        for (int step = 0; step < 8; step++) {
            fresh("valley 9 10" + times(";step 0", step) + ";step 1" + times(";step 0", 7 - step));
            call("seed", x);
            due(step == want ? 1 : 0, "storms", 1, n, p, 1);
        }
    }

    private void draws() {
        says("DRAWS: x (0 to 2147483647; 0 at first) becomes x * 1103515245 + 12345, of 2147483648 the rest; a DRAW is x / "
            + "65536.");
        x = new SweptSnow();
        due(0, "count", 13);
        // 12345: a DRAW of 0; 1406932606: 21468, by 8 the rest is 4.
        comesOn(4, 0, 1, 1);
        comesOn(NONE, 0, 1, 0);
        // 1103527590: 16838, by 100 the rest is 38; 377401575: 5758, by 8 it is 6.
        comesOn(6, 1, 1, 39);
        comesOn(NONE, 1, 1, 38);
        // 1043980748: 15929, by 100 the rest is 29; 288979989: 4409, by 8 it is 1.
        comesOn(1, HIGHEST, 1, 30);
        comesOn(NONE, HIGHEST, 1, 29);
        says("x becomes a number: what it was; NONE, and nothing happens, below 0.");
        x = new SweptSnow();
        due(0, "seed", 0);
        due(0, "seed", HIGHEST);
        due(HIGHEST, "count", 13);
        due(HIGHEST, "seed", 1);
        due(1, "seed", 0);
        scene(this::busy);
        still(NONE, "seed", -1);
        still(NONE, "seed", LOWEST);
        due(77, "seed", 78);
        scene(this::nothing);
        still(NONE, "seed", -1);
    }

    private void storms() {
        says("STORMS m times (1 to 10) n DAYS (1 to 60) from now on: ahead of each a DRAW mod 100: is it below p (0 to 100), "
            + "and are there STEPS, a DRAW mod how many: FALL comes down on that one at once:");
        // 194 draws 22599, by 100 the rest is 99; then 21269, by 8 it is 5.
        comesOn(5, 194, 1, 100);
        comesOn(NONE, 194, 1, 99);
        // 77 draws 97, then 60 on the second DAY, as there was no STEP to draw; then 19669, by 8 the rest is 5.
        comesOn(NONE, 77, 1, 97);
        comesOn(5, 77, 2, 61);
        comesOn(NONE, 77, 2, 60);
        fresh("valley 1 5;step 2;step 5");
        due(7, "storms", 1, 1, 0, 0);
        due(8, "storms", 1, 1, 100, 0);
        due(67, "storms", 1, 60, 100, 0);
        due(670, "storms", 10, 60, 100, 0);
        fresh("valley 4 5;step 1;house 0 9");
        due(4, "storms", 1, 1, 100, 0);
        due(1, "storms", 1, 1, 0, 0);
        for (int lies = 989; lies <= 992; lies++) {
            fresh("valley 9 5;step 0");
            heap(0, lies);
            due(Math.min(999, lies + 9), "storms", 1, 1, 100, 0);
        }
        says("SNOW of all STEPS then; how many are CLOSED, all together (nothing stays; x as it was).");
        fresh("valley 1 5;step 2;step 5");
        due(70, "storms", 10, 60, 0, 0);
        due(10, "storms", 10, 60, 0, 1);
        due(1, "storms", 1, 60, 0, 1);
        call("seed", 77);
        due(7 + 8, "storms", 2, 1, 61, 0);
        due(77, "count", 13);
        snow(2, 5);
        due(0, "count", 6);
    }

    private void stormsRefused() {
        says("STORMS what 0: SNOW, 1: how many. NONE without these, or a VALLEY.");
        scene(this::busy);
        outside(NONE, "storms", 0, 1, 10, 1, 1, 50, 0);
        outside(NONE, "storms", 1, 1, 60, 1, 1, 50, 0);
        outside(NONE, "storms", 2, 0, 100, 1, 1, 50, 0);
        outside(NONE, "storms", 3, 0, 1, 1, 1, 50, 0);
        scene(this::bare);
        still(0, "storms", 10, 60, 100, 0);
        still(0, "storms", 10, 60, 100, 1);
        scene(this::nothing);
        still(NONE, "storms", 1, 1, 0, 0);
        still(NONE, "storms", 1, 1, 100, 1);
    }

    private void count() {
        says("What 0: FALL, 1: DEEP, 2: STEPS, 3: HOUSES, 4: RULES, 5: the RULE IN FORCE (NONE), 6: DAY, 7: STEPS that are "
            + "CLOSED, as bits, 8: that were swept this DAY, as bits, 9: that are needed this DAY, as bits, 10: SNOW of all "
            + "STEPS, 11: NOTES, 12: ACTS that can be UNDONE, 13: x, 14: bytes of the TAPE.");
        busy();
        counts(3, 5, 3, 2, 2, 1, 1, 2, 1, 1, 15, 2, 3, 77, 17);
        bare();
        counts(1, 1, 0, 0, 0, NONE, 0, 0, 0, 0, 0, 0, 0, 0, 17);
        nothing();
        counts(0, 0, 0, 0, 0, NONE, 0, 0, 0, 0, 0, 0, 0, 0, 17);
        full();
        counts(9, 30, 8, 4, 6, 5, 0, 255, 128 + 1, 255, 8 * 999 - 2, 10, 20, HIGHEST, 400);
        says("NONE for others.");
        scene(this::busy);
        outside(NONE, "count", 0, 0, 14, 0);
        scene(this::nothing);
        outside(NONE, "count", 0, 0, 14, 0);
    }

    /** As much of all as there can be. */
    private void full() {
        StringBuilder valley = new StringBuilder("valley 9 30" + times(";step 99", 8) + times(";house 0 1", 4));
        for (int i = 0; i < 8; i++) {
            valley.append(";need 0 ").append(i);
        }
        fresh(valley.toString());
        for (int i = 0; i < 6; i++) {
            call("force", rule("sweep " + i));
        }
        for (int i = 0; i < 8; i++) {
            heap(i, 900);
        }
        for (int i = 0; i < 10; i++) {
            call("note", 60, 7, 999);
        }
        call("sweep", 0, 0);
        call("sweep", 1, 7);
        call("seed", HIGHEST);
        tell(filled("", 400));
    }

    private void images() {
        says("IMAGES 0 to 3: all but the TAPE and the RULES, as it is (the RULE IN FORCE, too); gone back to, it is as it was "
            + "(these stay; nothing can be UNDONE then).");
        busy();
        due(1, "image", 0);
        call("day");
        due(2, "image", 3);
        call("force", NONE);
        call("seed", 5);
        call("note", NONE, 0, 0);
        call("pull", 0);
        rule("sweep 9");
        tell("abc");
        due(1, "back", 0);
        counts(3, 5, 3, 2, 3, 1, 1, 2, 1, 1, 15, 2, 0, 77, 3);
        snow(0, 11, 4);
        due(1, "step", 0, 3);
        due(0, "house", 0, 2);
        due(1, "house", 1, 2);
        ruledIs(3, NONE);
        due(NONE, "undo");
        call("toss", 1, 1);
        due(0, "undo");
        due(NONE, "undo");
        imageOfBefore();
        imageOfNotes();
        imageOfNothing();
        says("An IMAGE is made: DAY; NONE without it.");
        scene(this::busy);
        outside(NONE, "image", 0, 0, 3, 0);
        for (int k = 0; k < 4; k++) {
            due(1, "image", k);
            call("toss", 0, 1);
        }
        for (int k = 0; k < 4; k++) {
            due(1, "back", k);
            due(k, "step", 0, 0);
        }
        call("day");
        due(2, "image", 0);
        call("day");
        due(2, "back", 0);
    }

    private void imageOfBefore() {
        fresh("valley 1 30;step 9;step 9;house 0 1", "sweep 1 if before = 1");
        call("sweep", 0, 1);
        call("day");
        due(1, "image", 0);
        call("sweep", 0, 0);
        due(1, "day");
        due(1, "day");
        due(1, "back", 0);
        due(2, "day");
        due(1, "back", 0);
        due(2, "day");
    }

    private void imageOfNotes() {
        fresh("valley 1 30;step 9;step 8;house 0 9", "sweep 1 if step = 0 and day = 1");
        call("note", 2, 0, 9);
        ruledIs(1, NONE);
        due(0, "image", 0);
        call("note", NONE, 0, 0);
        call("note", 1, 1, 3);
        ruledIs(0, -2);
        due(0, "back", 0);
        due(1, "count", 11);
        ruledIs(1, NONE);
    }

    private void imageOfNothing() {
        nothing();
        due(0, "image", 1);
        rule("sweep 1");
        valley(VILLAGE);
        call("day");
        call("force", 0);
        due(0, "back", 1);
        counts(0, 0, 0, 0, 1, NONE, 0, 0, 0, 0, 0, 0, 0, 0, 0);
        due(NONE, "day");
    }

    private void back() {
        says("All is as in an IMAGE: DAY;");
        busy();
        due(0, "back", 2);
        counts(3, 5, 3, 2, 2, 1, 0, 1, 0, 0, 9, 0, 0, 0, 17);
        snow(7, 2, 0);
        call("toss", 0, 1);
        due(0, "back", 2);
        snow(7, 2, 0);
        valley("valley 1 1");
        due(0, "back", 2);
        snow(7, 2, 0);
        due(3, "count", 2);
    }

    private void backRefused() {
        says("NONE, and nothing happens, if it was never made, or without it.");
        scene(this::busy);
        still(NONE, "back", 0);
        still(NONE, "back", 1);
        still(NONE, "back", 3);
        outside(NONE, "back", 0, 0, 3, 0);
        scene(this::nothing);
        for (int k = 0; k < 4; k++) {
            still(NONE, "back", k);
        }
    }
}
