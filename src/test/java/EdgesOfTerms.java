/** Boundaries in the first paragraph of the terms: what there is, and how it is at first. */
final class EdgesOfTerms extends Edges {
    static void run() {
        calls();
        dishes();
        tastes();
        hadOrNew();
        today();
        at();
        sorrow();
        spoonsAndEvening();
        reach();
        war();
        slip();
        house();
        wage();
        paid();
    }

    private static void calls() {
        of("What it is", "An object is used for at most 512 calls after it has been made; what later calls answer is free.");
        BiteYears x = new BiteYears();
        int answer = 0;
        for (int call = 1; call <= 512; call++) {
            answer = x.crust();
        }
        due("the 512th call, a crust", answer, 1012);
    }

    private static void dishes() {
        term("DISHES (at most 12, numbered from 0 on):", 4, 7, 48);
        due("no dishes", dishes(0).count(0), 0);
        refused("dish 0 of none", INDEX, () -> dishes(0), x -> x.dish(0, 0));
        BiteYears x = dishes(12);
        due("twelve dishes", x.count(0), 12);
        for (int dish = 0; dish < 12; dish++) {
            due("a taste of dish " + dish, x.dish(dish, 0) * 10 + x.dish(dish, 4), dish < 10 ? dish * 11 : dish == 10 ? 1 : 12);
        }
        refused("dish 12 of twelve", INDEX, () -> dishes(12), y -> y.dish(12, 0));
        refused("dish -1 of twelve", INDEX, () -> dishes(12), y -> y.dish(-1, 0));
        wrongLife(() -> dishes(12), "dish 55555", 0);
        wrongLife(() -> dishes(11), "dish 55555;dish 66666", 11);
        BiteYears y = dishes(11);
        refused("dish 11 of eleven", INDEX, () -> dishes(11), z -> z.dish(11, 0));
        due("a text with the twelfth", Check.life(y, "dish 55555"), 2);
        due("the twelfth", y.dish(11, 0), 5);
    }

    private static void tastes() {
        term("five TASTES 0 to 9;", 4, 7, 25);
        BiteYears x = with("dish 09090;dish 90909");
        for (int taste = 0; taste < 5; taste++) {
            due("taste " + taste + " of 09090", x.dish(0, taste), taste % 2 * 9);
            due("taste " + taste + " of 90909", x.dish(1, taste), 9 - taste % 2 * 9);
        }
        // The signs ahead of 0 and behind 9.
        wrongLife("dish 0909/", 5);
        wrongLife("dish 0909:", 5);
        wrongLife("dish /0909", 5);
        wrongLife("dish :0909", 5);
        due("0 in a jar", taped(x, bytes(0, 9, 0, 9, 0)).jars(NONE), 0);
        due("9 in a jar", taped(x, bytes(9, 0, 9, 0, 9)).jars(0), 1);
        refusedTape("10 in a jar", ARGUMENT, bytes(10, 0, 9, 0, 9), y -> y.jars(NONE));
    }

    private static void hadOrNew() {
        term("HAD (FIRST: a DAY 0 to 9999, a PLACE 0 to 7, COMPANY 0 to 7, or nobody) or NEW.", 7, 13, 14);
        BiteYears x = with("dish 11111");
        dueRow("a new one", firstOf(x, 0), NONE, NONE, NONE);
        x.had(0, 0, 0, 0);
        dueRow("the least", firstOf(x, 0), 0, 0, 0);
        x.had(0, 9999, 7, 7);
        dueRow("the greatest", firstOf(x, 0), 9999, 7, 7);
        x.had(0, 1, 1, NONE);
        dueRow("with nobody", firstOf(x, 0), 1, 1, NONE);
        x.forget(0);
        dueRow("new again", firstOf(x, 0), NONE, NONE, NONE);
        refused("day -1", ARGUMENT, y -> y.had(0, -1, 0, 0));
        refused("day 10000", ARGUMENT, y -> y.had(0, 10000, 0, 0));
        refused("place -1", INDEX, y -> y.had(0, 0, -1, 0));
        refused("place 8", INDEX, y -> y.had(0, 0, 8, 0));
        refused("company -2", ARGUMENT, y -> y.had(0, 0, 0, -2));
        refused("company 8", ARGUMENT, y -> y.had(0, 0, 0, 8));
    }

    private static void today() {
        term("TODAY: a DAY (500 at first).", 12, 48);
        due("today at first", new BiteYears().count(3), 500);
        due("day 0", with("today 0").count(3), 0);
        BiteYears x = with("today 999");
        for (int i = 0; i < 149; i++) {
            x.evenings(60);
        }
        x.evenings(59);
        due("the day ahead of the last one", x.count(3), 9998);
        due("the last day", x.crust(), 9999);
        due("behind the last day", x.crust(), 9999);
    }

    private static void at() {
        term("AT: the DAY where she is (TODAY at first).", 11, 17, 48);
        BiteYears x = new BiteYears();
        due("at at first", x.count(4), 500);
        due("at at first is today", x.count(4), x.count(3));
        due("a look at her at first", x.look(), 50);
        due("at where nothing is served", taped(x, "").menu(0), 500);
        BiteYears y = with("dish 11111 first 0 at 0;dish 22222");
        y.spoon(0);
        due("at day 0", y.count(4), 0);
        y.had(1, 9999, 0, NONE);
        y.spoon(1);
        due("at day 9999", y.count(4), 9999);
        due("today is where it was", y.count(3), 500);
    }

    private static void sorrow() {
        term("SORROW 0 to 99 (0 at first).", 11, 48);
        due("sorrow at first", new BiteYears().count(5), 0);
        String dish = "dish 11111 first 1 at 1";
        int[][] cases = {{98, 1, 99}, {98, 2, 99}, {98, 60, 99}, {97, 1, 98}, {39, 60, 99}, {40, 60, 99}, {38, 60, 98}, {98, 0, 98}};
        for (int[] one : cases) {
            BiteYears x = withSorrow(one[0], dish, "grief " + one[1]);
            due("sorrow is " + one[0], x.count(5), one[0]);
            x.spoon(0);
            due(one[0] + " and " + one[1] + " more", x.count(5), one[2]);
        }
        int[][] joys = {{1, 1, 0}, {1, 2, 0}, {0, 1, 0}, {2, 1, 1}, {60, 60, 0}, {59, 60, 0}, {61, 60, 1}};
        for (int[] one : joys) {
            BiteYears x = withSorrow(one[0], dish, "joy " + one[1]);
            x.spoon(0);
            due(one[0] + " and " + one[1] + " less", x.count(5), one[2]);
        }
    }

    private static void spoonsAndEvening() {
        term("SPOONS of this evening (0 at first), EVENING (0 at first).", 11, 12, 43, 48);
        BiteYears x = with("dish 11111 first 1 at 1");
        dueRow("spoons and evening at first", counts(x, 6, 7), 0, 0);
        x.spoon(0);
        x.spoon(0);
        dueRow("behind two spoons", counts(x, 6, 7), 2, 0);
        x.crust();
        dueRow("another evening", counts(x, 6, 7), 0, 1);
        x.spoon(0);
        due("the log's evening", x.log(0, 0), 1);
        due("the log's evening at first", x.log(1, 0), 0);
    }

    private static void reach() {
        term("REACH 0 to 45 (5 at first).", 9, 15, 48);
        BiteYears x = with("dish 00000;dish 00005 first 1 at 1;dish 00006 first 2 at 2");
        due("reach at first", x.count(8), 5);
        due("far by 5 is near at first, by 6 not", x.near(0), 2);
        x.forget(1);
        due("far by 6 is not called up at first", x.dish(0, 8), NONE);
        due("reach 0", x.reach(0), 5);
        due("reach 45", x.reach(45), 0);
        due("reach is 45", x.count(8), 45);
        refused("reach -1", ARGUMENT, y -> y.reach(-1));
        refused("reach 46", ARGUMENT, y -> y.reach(46));
        due("a text of reach 0", with("reach 0").count(8), 0);
        due("a text of reach 45", with("reach 45").count(8), 45);
        wrongLife("reach 46", 6);
    }

    private static void war() {
        term("WAR: from a DAY to a DAY (both too; 0 to 0 at first).", 4, 36, 48);
        dueRow("the war at first", counts(new BiteYears(), 9, 10), 0, 0);
        BiteYears x = with("dish 11111 first 0 at 0;dish 11111 first 1 at 0", "grief 1 if war");
        due("day 0 is in the war at first, day 1 is not", x.warlike(), 1);
        due("so says the law of day 0", x.dish(0, 9), 1);
        due("so says the law of day 1", x.dish(1, 9), 0);
        BiteYears y = with("war 240 to 310;dish 11111 first 239 at 0;dish 11111 first 240 at 0;dish 11111 first 310 at 0;dish 11111 first 311 at 0", "grief 1 if war");
        due("both days too", y.warlike(), 2 | 4);
        for (int dish = 0; dish < 4; dish++) {
            due("so says the law of dish " + dish, y.dish(dish, 9), dish == 1 || dish == 2 ? 1 : 0);
        }
        BiteYears one = with("war 50 to 50;dish 11111 first 49 at 0;dish 11111 first 50 at 0;dish 11111 first 51 at 0");
        due("a war of one day", one.warlike(), 2);
    }

    private static void slip() {
        term("SLIP 0 to 100 (0 at first).", 4, 17, 48);
        due("slip at first", new BiteYears().count(11), 0);
        int[][] cases = {{0, 0, 50}, {1, 0, 51}, {1, 1, 50}, {99, 98, 51}, {99, 99, 50}, {100, 99, 51}, {100, 0, 51}};
        for (int[] one : cases) {
            BiteYears x = one[0] == 0 ? new BiteYears() : with("slip " + one[0]);
            x.seed(seedThatDraws(one[1]));
            due("a look with slip " + one[0] + " by draw " + one[1], x.look(), one[2]);
        }
        due("a text of slip 0", with("slip 5;slip 0").count(11), 0);
        due("a text of slip 100", with("slip 100").count(11), 100);
        wrongLife("slip 101", 5);
    }

    private static void house() {
        term("HOUSE: a PLACE (0 at first).", 16, 48);
        BiteYears x = with("dish 11111;dish 99999");
        due("house at first", x.count(12), 0);
        x.spoon(0);
        due("had in the house at first", x.dish(0, 6), 0);
        due("house 7", x.house(7), 0);
        x.spoon(1);
        due("had in house 7", x.dish(1, 6), 7);
        due("house 0", x.house(0), 7);
        refused("house -1", INDEX, y -> y.house(-1));
        refused("house 8", INDEX, y -> y.house(8));
        due("a text of house 7", with("house 7").count(12), 7);
        due("a text of house 0", with("house 7;house 0").count(12), 0);
        wrongLife("house 8", 6);
    }

    private static void wage() {
        term("WAGE 0 to 50 (1 at first).", 4, 7, 48);
        due("wage at first", new BiteYears().count(13), 1);
        due("a dish pays 1 at first", with("dish 11111").dish(0, 10), 1);
        BiteYears x = with("dish 11111;wage 0");
        x.spoon(0);
        due("a spoon for wage 0", x.count(14), 0);
        BiteYears y = with("dish 11111;wage 50");
        y.spoon(0);
        due("a spoon for wage 50", y.count(14), 50);
        due("wage 50", y.count(13), 50);
        wrongLife("wage 51", 5);
    }

    private static void paid() {
        term("PAID: 0 to 9999 (0 at first).", 11, 48);
        due("paid at first", new BiteYears().count(14), 0);
        due("paid 9998", withPaid(9998).count(14), 9998);
        BiteYears x = withPaid(9998);
        x.spoon(0);
        due("1 more", x.count(14), 9999);
        x.spoon(0);
        due("and 1 more", x.count(14), 9999);
    }

    /** One dish that pays 1; paid was as much as this. */
    static BiteYears withPaid(int paid) {
        BiteYears x = with("dish 11111 first 1 at 1;wage 0");
        int left = paid;
        Check.law(x, lines(12, "pay 60"));
        while (left >= 720) {
            x.spoon(0);
            left -= 720;
        }
        StringBuilder law = new StringBuilder("pay " + left % 60);
        for (int i = 0; i < left / 60; i++) {
            law.append(";pay 60");
        }
        Check.law(x, law.toString());
        x.spoon(0);
        Check.law(x, "");
        Check.life(x, "wage 1");
        return x;
    }
}
