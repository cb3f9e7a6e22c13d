/** Boundaries in the terms behind ==== 2: what is called up, spoons, the crust, evenings by draws, acts and the log. */
final class EdgesOfDeeds extends Edges {
    static void run() {
        far();
        callsItself();
        callsTheNearest();
        spoonPays();
        spoonTurns();
        spoonLeads();
        spoonMakesHad();
        spoonByAllAhead();
        noSpoonAtTheEnd();
        crust();
        eveningSpoons();
        eveningWithoutDishes();
        eveningNotTaken();
        eveningThenCrust();
        draw();
        acts();
        actsTold();
        looks();
        eveningsAreAnAct();
        log();
    }

    private static void far() {
        term("FAR of two DISHES: by how much TASTES of both differ, one by one, all five together.", 8);
        BiteYears x = with("dish 00000;dish 99999;dish 90000;dish 09000;dish 00001;dish 00000;dish 10000;dish 01000;dish 00100;dish 00010");
        due("the most", x.far(0, 1), 45);
        due("the most, from the other one", x.far(1, 0), 45);
        due("not at all", x.far(0, 5), 0);
        due("from itself", x.far(1, 1), 0);
        due("both ways are not taken off one another", x.far(2, 3), 18);
        for (int dish : new int[] {4, 6, 7, 8, 9}) {
            due("by one taste of dish " + dish, x.far(0, dish) * 100 + x.far(dish, 1), 144);
        }
    }

    private static void callsItself() {
        term("CALLS of a DISH: itself, if it is HAD;", 7, 11);
        BiteYears x = with("dish 11111 first 5 at 1;dish 11111 first 6 at 2;dish 11111;reach 0");
        due("a had one with a twin of a lesser number", x.dish(1, 8), 1);
        due("the twin", x.dish(0, 8), 0);
        due("a new one does not call up itself", x.dish(2, 8), 0);
        x.had(2, 0, 0, NONE);
        due("had on day 0", x.dish(2, 8), 2);
        x.forget(2);
        due("forgotten", x.dish(2, 8), 0);
    }

    private static void callsTheNearest() {
        term("else of those HAD the one that is the least FAR from it, if that is REACH at most (of several the least); none.", 7, 11);
        BiteYears x = with("dish 55555;dish 55557 first 30 at 1;dish 55553 first 20 at 2;dish 55556 first 10 at 3;dish 55555;reach 2");
        due("the least far, though it comes later", x.dish(0, 8), 3);
        x.forget(3);
        due("of several the least", x.dish(0, 8), 1);
        due("far by the reach", x.dish(0, 8) * 10 + x.far(0, 1), 12);
        x.reach(1);
        due("far by 1 more than the reach", x.dish(0, 8), NONE);
        due("far by as much as the reach", x.dish(3, 8), 1);
        x.reach(45);
        x.forget(1);
        due("the other one", x.dish(0, 8), 2);
        x.forget(2);
        due("none is had", x.dish(0, 8), NONE);
        BiteYears y = with("dish 00000;dish 99999 first 7 at 1;reach 45");
        due("far by 45 with reach 45", y.dish(0, 8), 1);
        y.reach(44);
        due("far by 45 with reach 44", y.dish(0, 8), NONE);
        BiteYears z = with("dish 00000;dish 00000 first 7 at 1;reach 0");
        due("far by 0 with reach 0", z.dish(0, 8), 1);
        due("alone of all", with("dish 00000;reach 45").dish(0, 8), NONE);
    }

    private static void spoonPays() {
        term("A SPOON of a DISH: (a) what it PAYS is PAID more (9999 at most);", 11);
        int[][] cases = {{0, 1, 1}, {0, 0, 0}, {9997, 1, 9998}, {9998, 1, 9999}, {9999, 1, 9999}, {9998, 2, 9999}, {9950, 49, 9999}, {9950, 50, 9999}, {9949, 49, 9998}};
        for (int[] one : cases) {
            BiteYears x = EdgesOfTerms.withPaid(one[0]);
            Check.life(x, "wage " + one[1]);
            due("paid", x.count(14), one[0]);
            x.spoon(0);
            due(one[1] + " more than " + one[0], x.count(14), one[2]);
        }
        BiteYears x = EdgesOfTerms.withPaid(9900);
        Check.life(x, "wage 50");
        Check.law(x, lines(12, "pay 60"));
        x.spoon(0);
        due("770 more than 9900", x.count(14), 9999);
    }

    private static void spoonTurns() {
        term("(b) SORROW is what it TURNS by more (0 to 99);", 11);
        String dish = "dish 11111 first 1 at 1";
        int[][] cases = {{0, 0, 0}, {0, 1, 1}, {39, 60, 99}, {40, 60, 99}, {98, 1, 99}, {98, 0, 98}};
        for (int[] one : cases) {
            BiteYears x = withSorrow(one[0], dish, "grief " + one[1]);
            x.spoon(0);
            due(one[1] + " more than " + one[0], x.count(5), one[2]);
            BiteYears y = withSorrow(one[2] == one[0] + one[1] ? one[2] % 99 : one[0], dish, "joy " + one[1]);
            int from = y.count(5);
            y.spoon(0);
            due(one[1] + " less than " + from, y.count(5), Math.max(0, from - one[1]));
        }
        BiteYears most = withSorrow(0, dish, lines(12, "grief 60"));
        most.spoon(0);
        due("720 more than 0", most.count(5), 99);
        BiteYears least = withSorrow(98, dish, lines(12, "joy 60"));
        least.spoon(0);
        due("720 less than 98", least.count(5), 0);
        BiteYears even = withSorrow(50, dish, "grief 60;joy 60");
        even.spoon(0);
        due("60 more and 60 less than 50", even.count(5), 50);
    }

    private static void spoonLeads() {
        term("(c) AT is FIRST of what it CALLS up, or TODAY, if that is none;", 11);
        BiteYears x = with("dish 11111 first 0 at 1;dish 11112;dish 99999;reach 1;today 333");
        due("a had one", x.spoon(0), 0);
        due("at", x.count(4), 0);
        due("a new one that calls up nothing", x.spoon(2), 333);
        due("at", x.count(4), 333);
        due("a new one that calls up another one", x.spoon(1), 0);
        due("at", x.count(4), 0);
        x.had(0, 9999, 0, NONE);
        due("the last day", x.spoon(0), 9999);
    }

    private static void spoonMakesHad() {
        term("(d) if it was NEW: it is HAD: FIRST is TODAY, at HOUSE, with nobody; SPOONS is 1 more.", 11);
        BiteYears x = with("dish 11111 first 3 at 1 with 2;dish 11112;dish 99999;reach 1;today 0;house 7");
        x.spoon(1);
        dueRow("a new one that called up another one", firstOf(x, 1), 0, 7, NONE);
        dueRow("the other one stays", firstOf(x, 0), 3, 1, 2);
        x.house(0);
        x.crust();
        x.spoon(2);
        dueRow("a new one that called up nothing", firstOf(x, 2), 1, 0, NONE);
        x.crust();
        x.spoon(0);
        x.spoon(1);
        dueRow("a had one stays", firstOf(x, 0), 3, 1, 2);
        dueRow("one that was new stays", firstOf(x, 1), 0, 7, NONE);
        due("spoons", x.count(6), 2);
        BiteYears y = with("dish 11111 first 3 at 1");
        for (int i = 1; i <= 300; i++) {
            y.spoon(0);
        }
        due("spoons have no end", y.count(6), 300);
    }

    private static void spoonByAllAhead() {
        term("(TURNS, PAYS by all as it is ahead.)", 11);
        BiteYears x = with("dish 11111", "grief 10;grief 3 if spoons > 0;grief 5 if new;pay 7 if sorrow > 0;pay 9 if spoons > 0;pay 20 if new;pay 30 if alone");
        dueRow("what it would turn by and pay", new int[] {x.dish(0, 9), x.dish(0, 10)}, 15, 21);
        x.spoon(0);
        dueRow("the first one", counts(x, 5, 14), 15, 21);
        dueRow("what it would turn by and pay then", new int[] {x.dish(0, 9), x.dish(0, 10)}, 13, 47);
        x.spoon(0);
        dueRow("the second one", counts(x, 5, 14), 28, 68);
    }

    private static void noSpoonAtTheEnd() {
        term("With SORROW 99 she takes no SPOON.", 11, 18, 19, 33);
        String dish = "dish 11111 first 1 at 1;dish 22222";
        BiteYears x = withSorrow(98, dish, "joy 1");
        due("with 98", x.spoon(1), 1);
        refused("with 99", STATE, () -> withSorrow(99, dish, "joy 1"), y -> y.spoon(1));
        due("with 99 there are none on a menu", taped(withSorrow(99, dish, "joy 1"), bytes(1, 1)).menu(2), 0);
        due("with 99 there are none till it is 99", withSorrow(99, dish, "joy 1").breaks(1), 0);
        due("with 98 there are some on a menu", taped(withSorrow(98, dish, "joy 1"), bytes(1, 1)).menu(2), 2);
    }

    private static void crust() {
        term("THE CRUST: TODAY is 1 more (9999 at most), AT is TODAY then, SORROW is the half, rounded down, SPOONS 0, EVENING 1 more (9999 at most).", 12);
        int[] sorrows = {0, 1, 2, 3, 97, 98, 99};
        for (int sorrow : sorrows) {
            BiteYears x = withSorrow(sorrow, "dish 11111 first 1 at 1", "");
            if (sorrow < 99) {
                x.spoon(0);
            }
            due("crust with sorrow " + sorrow, x.crust(), 501);
            dueRow("today, at, sorrow, spoons, evening", counts(x, 3, 4, 5, 6, 7), 501, 501, sorrow / 2, 0, 1);
        }
        BiteYears x = with("dish 11111 first 1 at 1;today 0");
        due("from day 0", x.crust(), 1);
        for (int i = 0; i < 166; i++) {
            x.evenings(60);
        }
        x.evenings(37);
        dueRow("today and evening ahead of the last ones", counts(x, 3, 4, 7), 9998, 9998, 9998);
        due("the last day", x.crust(), 9999);
        dueRow("today, at and evening", counts(x, 3, 4, 7), 9999, 9999, 9999);
        x.spoon(0);
        due("behind the last day", x.crust(), 9999);
        dueRow("today, at, spoons and evening", counts(x, 3, 4, 6, 7), 9999, 9999, 0, 9999);
        x.evenings(60);
        dueRow("behind evenings more", counts(x, 3, 4, 6, 7), 9999, 9999, 0, 9999);
        BiteYears y = with("today 999");
        for (int i = 0; i < 150; i++) {
            y.evenings(60);
        }
        dueRow("the last day comes ahead of the last evening", counts(y, 3, 7), 9999, 9000);
        y.crust();
        dueRow("then evenings go on alone", counts(y, 3, 7), 9999, 9001);
    }

    private static void eveningSpoons() {
        term("AN EVENING by draws: DRAW modulo 4, and 1, SPOONS, each of the DISH DRAW modulo how many there are", 18, 43);
        for (int draw : new int[] {0, 1, 2, 3, 4, 7, 32764, 32767}) {
            BiteYears x = with("dish 11111 first 1 at 1");
            x.seed(seedThatDraws(draw));
            due("spoons by draw " + draw, x.evenings(1), draw % 4 + 1);
            due("rows of the log", x.count(15), draw % 4 + 1);
        }
        for (int many : new int[] {1, 2, 5, 11, 12}) {
            for (int seed = 1; seed <= 30; seed++) {
                BiteYears x = dishes(many);
                x.seed(seed);
                int spoons = x.evenings(1);
                int then = step(seed);
                due("spoons of " + many + " dishes from " + seed, spoons, drawOf(then) % 4 + 1);
                for (int i = 1; i <= spoons; i++) {
                    then = step(then);
                    due("dish of spoon " + i + " of " + many + " from " + seed, x.log(spoons - i, 1), drawOf(then) % many);
                }
                due("seed behind them", seedOf(x), then);
            }
        }
    }

    private static void eveningWithoutDishes() {
        term("(none, if there are none;", 18, 40, 41);
        BiteYears x = new BiteYears();
        due("spoons of an evening without dishes", x.evenings(1), 0);
        due("spoons of 60 evenings without dishes", x.evenings(60), 0);
        dueRow("but for the crust nothing comes", counts(x, 3, 4, 5, 6, 7, 14, 15, 16), 561, 561, 0, 0, 61, 0, 0, 2);
        dueRow("trial and span without dishes", new int[] {x.trial(60, false), x.trial(60, true), x.span(60, false), x.span(60, true)}, 0, 0, 0, 0);
        due("spoons of an evening with one dish", with("dish 11111").evenings(1) > 0, true);
    }

    private static void eveningNotTaken() {
        term("of SPOONS that she does not take any more nothing comes, the DRAWS are made),", 18);
        for (int sorrow : new int[] {98, 99}) {
            BiteYears x = withSorrow(sorrow, "dish 11111 first 1 at 1;dish 99999", "grief 1;pay 7");
            int[] before = counts(x, 14, 15);
            // Four spoons.
            int seed = seedThatDraws(3);
            x.seed(seed);
            due("spoons taken with sorrow " + sorrow, x.evenings(1), 99 - sorrow);
            dueRow("paid and rows", counts(x, 14, 15), before[0] + 8 * (99 - sorrow), before[1] + 99 - sorrow);
            due("five draws", seedOf(x), step(step(step(step(step(seed))))));
            due("the crust comes all the same", x.count(5), 49);
        }
        BiteYears two = withSorrow(0, "dish 11111 first 1 at 1;dish 99999", "grief 60");
        two.seed(seedThatDraws(3));
        due("two of four are taken", two.evenings(1), 2);
        dueRow("sorrow and evening then", counts(two, 5, 7), 49, 1);
        BiteYears anew = withSorrow(99, "dish 11111 first 1 at 1", "grief 50");
        anew.seed(seedThatDraws(3));
        due("on the next evening she takes some again", anew.evenings(2), 1);
    }

    private static void eveningThenCrust() {
        term("then THE CRUST.", 18);
        BiteYears x = withSorrow(0, "dish 11111 first 1 at 1", "grief 3");
        x.seed(seedThatDraws(0));
        x.evenings(1);
        dueRow("today, at, sorrow, spoons, evening", counts(x, 3, 4, 5, 6, 7), 501, 501, 1, 0, 1);
        due("the log has the evening ahead of the crust", x.log(0, 0), 0);
        due("and where she was", x.log(0, 3), 1);
        x.evenings(1);
        due("of the next evening", x.log(0, 0), 1);
    }

    private static void draw() {
        term("DRAW: SEED is 1103515245 times SEED and 12345, as an int that goes round; bits 16 to 30 (SEED 1 at first).", 17, 18, 44);
        due("seed at first", seedOf(new BiteYears()), 1);
        int[] seeds = {0, 1, 2, -1, LEAST, GREATEST, 12345, -12345, 1 << 30, 65536};
        for (int seed : seeds) {
            BiteYears x = new BiteYears();
            x.seed(seed);
            x.look();
            due("seed behind " + seed, seedOf(x), java.math.BigInteger.valueOf(1103515245).multiply(java.math.BigInteger.valueOf(seed))
                .add(java.math.BigInteger.valueOf(12345)).intValue());
        }
        // The last one that does not go round, the first one that does, and one below 0.
        due("from 0", behind(0), 12345);
        due("from 1", behind(1), 1103527590);
        due("from 2", behind(2), -2087924461);
        due("from -1", behind(-1), -1103502900);
        // Bits 15 and 31 do not count, bits 16 and 30 do.
        int[][] cases = {{0, 0}, {0xFFFF, 0}, {1 << 16, 1}, {1 << 30, 16384}, {LEAST, 0}, {GREATEST, 32767}, {-1, 32767}, {LEAST | 1 << 16, 1}, {99 << 16, 99}, {100 << 16, 100}};
        for (int[] one : cases) {
            for (int slip = one[1] % 100; slip <= one[1] % 100 + 1; slip++) {
                BiteYears x = with("slip " + slip);
                x.seed(seedAhead(one[0]));
                due("a look by seed " + one[0] + " with slip " + slip, x.look(), slip == one[1] % 100 ? 50 : 51);
                due("the seed", seedOf(x), one[0]);
            }
            BiteYears y = with("dish 11111 first 1 at 1");
            y.seed(seedAhead(one[0]));
            due("spoons by seed " + one[0], y.evenings(1), one[1] % 4 + 1);
        }
    }

    private static int behind(int seed) {
        BiteYears x = new BiteYears();
        x.seed(seed);
        x.look();
        return seedOf(x);
    }

    private static void acts() {
        term("ACTS: a SPOON of a DISH; THE CRUST;", 11, 12, 45);
        dueAct("a spoon", x -> x.spoon(0), 1);
        dueAct("the crust", BiteYears::crust, 1);
        dueAct("a seed", x -> x.seed(7), 0);
        dueAct("an image", x -> {
            x.image();
            return 0;
        }, 0);
        dueAct("a look into a dish", x -> x.dish(0, 9), 0);
        dueAct("order", x -> x.order(3, NONE), 0);
        dueAct("breaks", x -> x.breaks(0), 0);
        dueAct("trial", x -> x.trial(60, true), 0);
        dueAct("span", x -> x.span(60, true), 0);
        dueAct("a menu", x -> taped(x, bytes(0, 1)).menu(0), 0);
        dueAct("feed", x -> x.feed(1, 2, 3, 4, 5), 0);
        dueAct("end", x -> x.end(0), 0);
    }

    private static void actsTold() {
        term("a DISH is told as HAD, or as NEW; REACH is told; HOUSE is told;", 13, 14, 15, 16, 45);
        dueAct("had", x -> x.had(0, 1, 1, 1), 1);
        dueAct("had as it was", x -> x.had(0, x.dish(0, 5), x.dish(0, 6), x.dish(0, 7)), 1);
        dueAct("forget", x -> x.forget(0), 1);
        dueAct("reach", x -> x.reach(0), 1);
        dueAct("reach as it was", x -> x.reach(x.count(8)), 1);
        dueAct("house", x -> x.house(0), 1);
        dueAct("house as it was", x -> x.house(x.count(12)), 1);
    }

    private static void looks() {
        term("a LOOK: the decade of AT (by 10, rounded down), 1 more if DRAW modulo 100 is below SLIP;", 17, 45);
        dueAct("a look", BiteYears::look, 1);
        int[][] days = {{0, 0}, {9, 0}, {10, 1}, {19, 1}, {129, 12}, {130, 13}, {999, 99}, {9989, 998}, {9990, 999}, {9999, 999}};
        for (int[] one : days) {
            BiteYears x = with("dish 11111;slip 50");
            x.had(0, one[0], 0, NONE);
            x.spoon(0);
            x.seed(seedThatDraws(50));
            due("a look at day " + one[0] + " by draw 50", x.look(), one[1]);
            x.seed(seedThatDraws(49));
            due("a look at day " + one[0] + " by draw 49", x.look(), one[1] + 1);
            x.seed(seedThatDraws(149));
            due("a look at day " + one[0] + " by draw 149", x.look(), one[1] + 1);
            x.seed(seedThatDraws(150));
            due("a look at day " + one[0] + " by draw 150", x.look(), one[1]);
        }
        BiteYears none = new BiteYears();
        none.seed(seedThatDraws(0));
        due("draw 0 is not below slip 0", none.look(), 50);
        BiteYears all = with("slip 100");
        all.seed(seedThatDraws(99));
        due("draw 99 is below slip 100", all.look(), 51);
    }

    private static void eveningsAreAnAct() {
        term("EVENINGS.", 18, 45);
        dueAct("an evening", x -> x.evenings(1), 1);
        dueAct("60 evenings", x -> x.evenings(60), 1);
    }

    private static void dueAct(String name, Use use, int acts) {
        BiteYears x = full();
        int before = x.count(16);
        use.on(x);
        due("acts by " + name, x.count(16) - before, acts);
    }

    private static void log() {
        term("THE LOG: the latest 60 SPOONS: EVENING, the DISH, what it CALLED up (none), AT then.", 43, 48);
        BiteYears x = with("dish 11111 first 10 at 1;dish 11112;dish 99999;reach 1");
        due("rows at first", x.count(15), 0);
        x.spoon(2);
        dueRow("what called up nothing", row(x, 0), 0, 2, NONE, 500);
        x.crust();
        x.spoon(1);
        dueRow("what called up another one", row(x, 0), 1, 1, 0, 10);
        x.spoon(1);
        dueRow("what called up itself", row(x, 0), 1, 1, 1, 501);
        for (int i = 4; i <= 60; i++) {
            x.spoon(0);
        }
        due("60 rows", x.count(15), 60);
        dueRow("the oldest of 60", row(x, 59), 0, 2, NONE, 500);
        dueRow("behind it", row(x, 60), -2, -2, -2, -2);
        x.spoon(0);
        due("rows behind the 61st", x.count(15), 60);
        dueRow("the oldest then", row(x, 59), 1, 1, 0, 10);
        dueRow("behind it", row(x, 60), -2, -2, -2, -2);
        for (int i = 62; i <= 121; i++) {
            x.spoon(2);
        }
        dueRow("the latest of twice round", row(x, 0), 1, 2, 2, 500);
        dueRow("the oldest of twice round", row(x, 59), 1, 2, 2, 500);
        due("rows of twice round", x.led(2, false) * 100 + x.led(0, false), 6000);
        BiteYears y = with("dish 11111 first 10 at 1");
        int taken = y.evenings(14);
        due("rows of evenings", y.count(15), Math.min(60, taken));
        taken = taken + y.evenings(60);
        due("more than 60 were taken", taken > 60, true);
        due("60 rows of evenings", y.count(15), 60);
        due("the latest evening in the log", y.log(0, 0), 73);
    }
}
