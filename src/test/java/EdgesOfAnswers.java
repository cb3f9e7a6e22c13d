/** Boundaries in the terms behind ==== 3: what is near, menus, searches, what dishes tell, trials, acts undone and the image. */
final class EdgesOfAnswers extends Edges {
    static void run() {
        near();
        left();
        menu();
        menuStaysNot();
        age();
        fewestBits();
        fewest();
        order();
        orderRow();
        he();
        unknown();
        serve();
        jars();
        jarsAndDishes();
        kitchen();
        dated();
        gap();
        lover();
        oldest();
        sad();
        hosts();
        breaks();
        twins();
        next();
        warlike();
        company();
        odds();
        share();
        trial();
        span();
        led();
        undone();
        noneRemembered();
        image();
        severalExceptions();
        whatThrowsChangesNothing();
        index();
        argument();
        state();
        sets();
    }

    private static void near() {
        term("NEAR a DISH: other DISHES that are FAR from it by REACH at most, as bits.", 9);
        BiteYears x = with("dish 00000;dish 00004;dish 00005 first 1 at 1;dish 00006;dish 00000;reach 5");
        due("by 4, 5 and 0, not by 6 nor itself", x.near(0), 2 | 4 | 16);
        x.reach(4);
        due("with reach 4", x.near(0), 2 | 16);
        x.reach(0);
        due("with reach 0", x.near(0), 16);
        due("of none other", x.near(1), 0);
        due("alone", with("dish 00000;reach 45").near(0), 0);
        BiteYears all = dishes(12);
        all.reach(45);
        due("all others of twelve, the first", all.near(0), 4094);
        due("all others of twelve, the last", all.near(11), 2047);
        all.reach(44);
        due("far by 45 with reach 44", all.near(0), 4094 - 512);
    }

    private static void left() {
        term("LEFT: DISHES that are NEW, as bits.", 10);
        due("without dishes", new BiteYears().left(), 0);
        due("all of twelve", dishes(12).left(), 4095);
        BiteYears x = dishes(12);
        for (int dish = 0; dish < 12; dish++) {
            due("ahead of dish " + dish, x.left(), 4095 & -1 << dish);
            x.had(dish, 0, 0, NONE);
        }
        due("none", x.left(), 0);
        x.forget(11);
        due("the last one", x.left(), 2048);
    }

    // ---- menus ----

    private static void dueMenu(String name, Make make, String dishes, int at, int sorrow, int spoons, int pay) {
        int[] want = {at, sorrow, spoons, pay};
        for (int what = 0; what < 4; what++) {
            due(name + ", what " + what, taped(make.fresh(), dishes).menu(what), want[what]);
        }
    }

    private static void menu() {
        term("MENU: DISHES served one behind another (the TAPE; from now on, as SPOONS; those behind the one at which SORROW is 99 are not taken): "
            + "AT, SORROW, how many SPOONS she takes, what all these PAY together.", 19);
        String life = "dish 11111 first 10 at 1;dish 22222 first 20 at 1;dish 99999;wage 2";
        dueMenu("none", () -> withSorrow(5, life, "grief 7"), "", 10, 5, 0, 0);
        dueMenu("till 98", () -> withSorrow(0, life, "grief 49"), bytes(1, 1), 20, 98, 2, 4);
        dueMenu("till 99", () -> withSorrow(1, life, "grief 49"), bytes(1, 0), 10, 99, 2, 4);
        dueMenu("behind 99", () -> withSorrow(1, life, "grief 49"), bytes(1, 1, 0, 0), 20, 99, 2, 4);
        dueMenu("behind more than 99", () -> withSorrow(2, life, "grief 49"), bytes(1, 1, 0, 0), 20, 99, 2, 4);
        dueMenu("behind 98", () -> withSorrow(0, life, "grief 49"), bytes(1, 1, 0, 0), 10, 99, 3, 6);
        dueMenu("from 99 on", () -> withSorrow(99, life, "joy 60"), bytes(1, 1), 10, 99, 0, 0);
        dueMenu("from 98 on", () -> withSorrow(98, life, "joy 60"), bytes(1, 1), 20, 0, 2, 4);
        dueMenu("a new one twice", () -> with(life, "grief 7 if new;grief 1 if spoons > 0;pay 5 if new"), bytes(2, 2), 500, 8, 2, 9);
        dueMenu("forty", () -> withSorrow(0, life, lines(12, "pay 60")), "\0".repeat(40), 10, 0, 40, 40 * 722);
        dueMenu("where paid is 9999", () -> EdgesOfTerms.withPaid(9999), bytes(0, 0), 1, 0, 2, 2);
    }

    private static void menuStaysNot() {
        term("(Nothing stays.)", 19);
        for (int what = 0; what < 4; what++) {
            int asked = what;
            unchangedButTape("menu " + what, bytes(1, 4, 1, 5), x -> x.menu(asked));
            unchangedButTape("an empty menu " + what, "", x -> x.menu(asked));
        }
    }

    // ---- ages ----

    private static BiteYears withFirst(int... days) {
        BiteYears x = dishes(days.length);
        for (int dish = 0; dish < days.length; dish++) {
            if (days[dish] != NONE) {
                x.had(dish, days[dish], dish % 8, dish % 8);
            }
        }
        return x;
    }

    private static void age() {
        term("AGE of a HAD DISH: FIRST by 100, rounded down.", 20, 22);
        int[][] cases = {{0, 0}, {99, 0}, {100, 1}, {199, 1}, {200, 2}, {899, 8}, {900, 9}, {999, 9}};
        for (int[] one : cases) {
            BiteYears x = withFirst(one[0]);
            for (int age = 0; age < 10; age++) {
                due("day " + one[0] + " is of age " + age, x.fewest(1 << age, 0), age == one[1] ? 1 : NONE);
                due("so is he of day " + one[0] + " in age " + age, taped(x, bytes(age, 0)).he(), age == one[1] ? 1 : 0);
            }
        }
        int[][] late = {{1000, 10}, {1099, 10}, {9899, 98}, {9900, 99}, {9999, 99}};
        for (int[] one : late) {
            BiteYears x = withFirst(one[0]);
            due("day " + one[0] + " in its age", taped(x, bytes(one[1], 0)).he(), 1);
            due("day " + one[0] + " in the age ahead", taped(x, bytes(one[1] - 1, 0)).he(), 0);
        }
    }

    private static void fewestBits() {
        term("FEWEST of AGES that must be had and AGES that must not (each as bits 0 to 9; AGES of 10 and more count for nothing):", 20);
        BiteYears all = withFirst(50, 150, 250, 350, 450, 550, 650, 750, 850, 950);
        due("bits 0 to 9", all.fewest(1023, 0), 1023);
        for (int age = 0; age < 10; age++) {
            due("bit " + age, all.fewest(1 << age, 1023 & ~(1 << age)), 1 << age);
            due("not bit " + age, all.fewest(1023 & ~(1 << age), 1 << age), 1023 & ~(1 << age));
        }
        BiteYears late = withFirst(1000, 1050, 9999, 5);
        due("age 10 is not age 0", late.fewest(1, 0), 8);
        due("all that must not", late.fewest(0, 1023), 0);
        due("age 10 alone", withFirst(1000).fewest(1, 0), NONE);
        due("ages 0 and 10, none must", withFirst(1000, 0).fewest(0, 0), 0);
    }

    private static void fewest() {
        term("the fewest HAD DISHES of whose AGES each of the first is one and none of the others: of several sets the least as bits; none.", 20);
        BiteYears x = withFirst(NONE, 110, 199, 0, 999, 200, 150);
        due("none must be had", x.fewest(0, 0), 0);
        due("one age of several dishes", x.fewest(2, 0), 2);
        due("two ages", x.fewest(1 | 2, 0), 2 | 8);
        due("an age that nobody had", x.fewest(8, 0), NONE);
        due("an age that must and must not", x.fewest(2, 2), NONE);
        due("ages apart", x.fewest(2, 1 | 4), 2);
        due("a new one is of no age", withFirst(NONE).fewest(1, 0), NONE);
        due("without dishes", new BiteYears().fewest(0, 0), 0);
        due("an age without dishes", new BiteYears().fewest(1, 0), NONE);
        x.forget(1);
        due("the next one then", x.fewest(2, 0), 4);
        due("the last of twelve", withFirst(0, 0, 0, 0, 0, 0, 0, 0, 0, 0, 0, 100).fewest(2, 1), 2048);
    }

    // ---- orders ----

    private static int[] rowOf(BiteYears x, int set, int many) {
        int[] got = new int[many + 1];
        got[0] = x.order(set, NONE);
        for (int k = 0; k < many; k++) {
            got[k + 1] = x.order(set, k);
        }
        return got;
    }

    private static void order() {
        term("ORDER of a set of DISHES (6 at most): all served one behind another, each once (as in a MENU), so that the greatest SORROW, now or behind any of them, is the least: how great;", 21);
        BiteYears x = dishes(12);
        due("none", x.order(0, NONE), 0);
        due("six", x.order(63, NONE), 0);
        due("the last six", x.order(63 << 6, NONE), 0);
        refused("seven", ARGUMENT, () -> dishes(12), y -> y.order(127, NONE));
        refused("the last seven", ARGUMENT, () -> dishes(12), y -> y.order(127 << 5, NONE));
        refused("all", ARGUMENT, () -> dishes(12), y -> y.order(4095, 0));
        String life = "dish 11111 first 10 at 1;dish 22222 first 20 at 1;dish 33333 first 30 at 1";
        // Dish 0 grieves by 30, dish 1 gladdens by 20, dish 2 grieves by 25.
        String law = "grief 30 if dish < 1;joy 20 if dish > 0 and dish < 2;grief 25 if dish > 1";
        due("behind any of them", withSorrow(0, life, law).order(7, NONE), 35);
        due("behind the last one", withSorrow(0, life, law).order(5, NONE), 55);
        due("now", withSorrow(60, life, law).order(2, NONE), 60);
        due("now, of none", withSorrow(60, life, law).order(0, NONE), 60);
        due("behind the first one", withSorrow(60, life, law).order(6, NONE), 65);
        due("98", withSorrow(43, life, law).order(5, NONE), 98);
        due("99", withSorrow(44, life, law).order(5, NONE), 99);
        due("more than 99", withSorrow(45, life, law).order(5, NONE), 99);
        due("now 99", withSorrow(99, life, law).order(7, NONE), 99);
        // As in a menu: what was new is had then, and spoons count.
        due("each once, as spoons", with("dish 11111;dish 11111", "grief 9 if spoons > 0;grief 5 if new").order(3, NONE), 19);
        unchanged("order", y -> y.order(63, NONE));
    }

    private static void orderRow() {
        term("which DISH is the k-th (from 0 on) in the first such row (by the first unlike one, the lesser); none.", 21);
        String life = "dish 11111 first 10 at 1;dish 22222 first 20 at 1;dish 33333 first 30 at 1;dish 44444 first 40 at 1";
        String law = "grief 30 if dish < 1;joy 20 if dish > 0 and dish < 2;grief 25 if dish > 1 and dish < 3";
        dueRow("of two the first", rowOf(withSorrow(0, life, law), 7, 4), 35, 0, 1, 2, NONE);
        dueRow("one row alone", rowOf(withSorrow(0, life, law + ";grief 40 if spoons < 1 and dish < 1"), 7, 4), 35, 2, 1, 0, NONE);
        dueRow("of several the first", rowOf(withSorrow(0, life, law), 8 | 5, 4), 55, 0, 2, 3, NONE);
        dueRow("all alike", rowOf(withSorrow(0, life, ""), 15, 5), 0, 0, 1, 2, 3, NONE);
        dueRow("with 99 all are alike", rowOf(withSorrow(99, life, law), 7, 4), 99, 0, 1, 2, NONE);
        dueRow("six", rowOf(dishes(12), 63 << 6, 7), 0, 6, 7, 8, 9, 10, 11, NONE);
        dueRow("one", rowOf(dishes(12), 2048, 2), 0, 11, NONE);
        dueRow("none", rowOf(dishes(12), 0, 1), 0, NONE);
        due("k -2", dishes(3).order(7, -2), NONE);
        due("k of the least", dishes(3).order(7, LEAST), NONE);
        due("k of the greatest", dishes(3).order(7, GREATEST), NONE);
    }

    // ---- who he was, and the unknown dish ----

    private static void he() {
        term("HE: told are pairs of an AGE and a PLACE: COMPANY 0 to 7 with whom for each of these some DISH was HAD FIRST in that AGE at that PLACE: as bits.", 22);
        BiteYears x = with("dish 11111 first 100 at 1 with 0;dish 11111 first 199 at 1 with 7;dish 11111 first 200 at 1 with 7;dish 11111 first 150 at 1;dish 11111 first 99 at 1 with 3;"
            + "dish 11111 first 150 at 2 with 7;dish 11111");
        due("of age 1 at 1: 0 and 7, not nobody", taped(x, bytes(1, 1)).he(), 129);
        due("of age 1 at 1 and at 2", taped(x, bytes(1, 1, 1, 2)).he(), 128);
        due("by three dishes", taped(x, bytes(1, 1, 1, 2, 2, 1)).he(), 128);
        due("the same twice", taped(x, bytes(1, 1, 1, 1)).he(), 129);
        due("of age 0 at 1", taped(x, bytes(0, 1)).he(), 8);
        due("of two ages with no one", taped(x, bytes(0, 1, 1, 1)).he(), 0);
        due("of age 0 at 0: a new one is nowhere", taped(x, bytes(0, 0)).he(), 0);
        for (int one = 0; one < 8; one++) {
            BiteYears y = dishes(1);
            y.had(0, 9999, one, one);
            due("company and place " + one, taped(y, bytes(99, one)).he(), 1 << one);
        }
        unchangedButTape("he", bytes(1, 1), BiteYears::he);
    }

    private static void unknown() {
        term("UNKNOWN: told are some LOOKS at her behind one and the same unknown HAD DISH (each its FIRST by 10, rounded down, or 1 more): DISHES that fit all of these, as bits.", 23);
        BiteYears x = withFirst(119, 120, 129, 130, 139, 140, NONE, 0, 9, 10);
        due("12: 119 and 1 more, 120, 129", taped(x, bytes(12)).unknown(), 1 | 2 | 4);
        due("13", taped(x, bytes(13)).unknown(), 2 | 4 | 8 | 16);
        due("12 and 13", taped(x, bytes(12, 13)).unknown(), 2 | 4);
        due("13 and 12", taped(x, bytes(13, 12, 13)).unknown(), 2 | 4);
        due("12 and 14", taped(x, bytes(12, 14)).unknown(), 0);
        due("0", taped(x, bytes(0)).unknown(), 128 | 256);
        due("1", taped(x, bytes(1)).unknown(), 128 | 256 | 512);
        due("2", taped(x, bytes(2)).unknown(), 512);
        due("none told: all had ones", taped(x, "").unknown(), 1023 & ~64);
        BiteYears late = withFirst(2539, 2540, 2549, 2550, 2559, 2560, 9999);
        due("254", taped(late, bytes(254)).unknown(), 1 | 2 | 4);
        due("255", taped(late, bytes(255)).unknown(), 2 | 4 | 8 | 16);
        due("without dishes", taped(new BiteYears(), bytes(0)).unknown(), 0);
        unchangedButTape("unknown", bytes(12), BiteYears::unknown);
    }

    private static void serve() {
        term("SERVE: the HAD DISH of which to ask, whether FIRST of the unknown one is not later than its own, so that those that fit are parted so that the greater part is the least "
            + "(of several the least; none with fewer than two).", 24);
        due("two: not later than the first of them", taped(withFirst(121, 125), bytes(12)).serve(), 0);
        due("two in the other row", taped(withFirst(125, 121), bytes(12)).serve(), 1);
        due("one", taped(withFirst(121, 500), bytes(12)).serve(), NONE);
        due("none that fits", taped(withFirst(121, 125), bytes(99)).serve(), NONE);
        due("none had", taped(withFirst(NONE, NONE), "").serve(), NONE);
        due("without dishes", taped(new BiteYears(), "").serve(), NONE);
        due("four by half", taped(withFirst(127, 121, 125, 123), bytes(12)).serve(), 3);
        due("three: of several the least", taped(withFirst(127, 125, 121), bytes(12)).serve(), 1);
        due("all of one day: the least had one", taped(withFirst(NONE, 121, 121), bytes(12)).serve(), 1);
        due("one that does not fit parts them no better", taped(withFirst(10, 500, 121, 121), bytes(12)).serve(), 0);
        due("one that does not fit is no better than one that does", taped(withFirst(500, 121, 125), bytes(12)).serve(), 1);
        due("those of the same day are not later", taped(withFirst(121, 121, 122, 122), bytes(12)).serve(), 0);
        due("by all had ones, without looks", taped(withFirst(9999, 0), "").serve(), 1);
        due("twelve of one day", taped(withFirst(0, 0, 0, 0, 0, 0, 0, 0, 0, 0, 0, 0), bytes(0)).serve(), 0);
        due("twelve, by half", taped(withFirst(12, 11, 10, 9, 8, 7, 6, 5, 4, 3, 2, 1), "").serve(), 6);
        unchangedButTape("serve", "", BiteYears::serve);
    }

    // ---- jars ----

    private static String jar(String tastes) {
        StringBuilder told = new StringBuilder();
        for (int i = 0; i < tastes.length(); i++) {
            told.append((char) (tastes.charAt(i) - '0'));
        }
        return told.toString();
    }

    private static int[] jarsOf(BiteYears x, String jars, int many) {
        int[] got = new int[many + 1];
        for (int k = -1; k < many; k++) {
            got[k + 1] = taped(x, jar(jars)).jars(k);
        }
        return got;
    }

    private static void jars() {
        term("JARS: told are jars of five TASTES each (at most 5): each is held for another DISH, so that by how much each is FAR from its own is, all together, the least: how much; "
            + "which DISH the k-th one is in the first such way (the least for the first, then the next, ..);", 25);
        BiteYears x = with("dish 00000;dish 00001;dish 00003;dish 99999;dish 00000;dish 55555");
        dueRow("one jar", jarsOf(x, "00002", 2), 1, 1, NONE);
        dueRow("one jar, the least of several", jarsOf(x, "00000", 2), 0, 0, NONE);
        dueRow("another dish for each", jarsOf(x, "00000" + "00000", 3), 0, 0, 4, NONE);
        dueRow("all together: the first gives way", jarsOf(with("dish 00001;dish 00009"), "00003" + "00000", 3), 7, 1, 0, NONE);
        dueRow("all together alike: the least for the first", jarsOf(with("dish 00001;dish 00002"), "00003" + "00003", 3), 3, 0, 1, NONE);
        dueRow("five", jarsOf(x, "55555" + "99999" + "00003" + "00001" + "00000", 6), 0, 5, 3, 2, 1, 0, NONE);
        refusedTape("six", ARGUMENT, jar("0".repeat(30)), y -> y.jars(NONE));
        dueRow("five alike of twelve", jarsOf(with(lines(12, "dish 11111")), "11111".repeat(5), 6), 0, 0, 1, 2, 3, 4, NONE);
        dueRow("the most", jarsOf(with(lines(12, "dish 99999")), "00000".repeat(5), 6), 225, 0, 1, 2, 3, 4, NONE);
        dueRow("the last of twelve", jarsOf(with(lines(11, "dish 99999") + ";dish 00000"), "00000", 2), 0, 11, NONE);
        unchangedButTape("jars", jar("12345" + "00000"), y -> y.jars(0));
    }

    private static void jarsAndDishes() {
        term("none, if there are more jars than DISHES.", 25);
        dueRow("as many jars as dishes", jarsOf(with("dish 00000;dish 11111"), "00000" + "00000", 2), 5, 0, 1);
        dueRow("one jar more", jarsOf(with("dish 00000;dish 11111"), "00000".repeat(3), 3), NONE, NONE, NONE, NONE);
        dueRow("one jar without dishes", jarsOf(new BiteYears(), "00000", 1), NONE, NONE);
        dueRow("five jars, four dishes", jarsOf(dishes(4), "00000".repeat(5), 1), NONE, NONE);
        dueRow("five jars, five dishes", jarsOf(dishes(5), "00000".repeat(5), 5), 50, 0, 1, 2, 3, 4);
        due("no jar", jarsOf(dishes(1), "", 0)[0], 0);
    }

    // ---- what dishes tell ----

    private static void kitchen() {
        term("KITCHEN at a PLACE: DISHES HAD first there, as bits.", 26);
        BiteYears x = withFirst(0, 1, 2, 3, 4, 5, 6, 7, 8, 9, 10, 11);
        for (int place = 0; place < 8; place++) {
            due("at " + place, x.kitchen(place), 1 << place | (place < 4 ? 256 << place : 0));
        }
        due("new ones are nowhere", dishes(12).kitchen(0), 0);
        due("without dishes", new BiteYears().kitchen(7), 0);
    }

    private static void dated() {
        term("DATED: the latest FIRST of told DISHES (a set): since when a kitchen that serves them all must be; none, if one is NEW or there is none.", 27);
        BiteYears x = withFirst(0, 9999, 500, NONE, 500);
        due("day 0", x.dated(1), 0);
        due("day 9999", x.dated(2), 9999);
        due("the latest", x.dated(1 | 4 | 16), 500);
        due("the latest of all had ones", x.dated(1 | 2 | 4 | 16), 9999);
        due("one is new", x.dated(1 | 2 | 8), NONE);
        due("a new one alone", x.dated(8), NONE);
        due("no dish is told", x.dated(0), NONE);
        due("without dishes", new BiteYears().dated(-1), NONE);
        due("the last of twelve", withFirst(1, 2, 3, 4, 5, 6, 7, 8, 9, 10, 11, 12).dated(4095), 12);
    }

    private static void gap() {
        term("GAP: the greatest difference of two FIRSTS that are next to each other in time (0 with fewer than two HAD).", 28);
        due("without dishes", new BiteYears().gap(), 0);
        due("none had", withFirst(NONE, NONE).gap(), 0);
        due("one had", withFirst(700, NONE).gap(), 0);
        due("two of one day", withFirst(700, 700).gap(), 0);
        due("two", withFirst(700, 701).gap(), 1);
        due("the greatest there can be", withFirst(9999, 0).gap(), 9999);
        due("next to each other in time, not in number", withFirst(0, 900, 300, 500).gap(), 400);
        due("the first gap", withFirst(0, 400, 700, 900).gap(), 400);
        due("the last gap", withFirst(0, 200, 500, 900).gap(), 400);
        due("new ones are not in it", withFirst(0, NONE, 5).gap(), 5);
        due("three, two of one day", withFirst(5, 9, 5).gap(), 4);
        due("of twelve", withFirst(0, 10, 20, 30, 40, 50, 60, 70, 80, 90, 100, 111).gap(), 11);
    }

    private static void lover() {
        term("LOVER: COMPANY with whom the most DISHES were HAD (of several the least; none).", 29);
        due("without dishes", new BiteYears().lover(), NONE);
        due("none had", dishes(2).lover(), NONE);
        due("with nobody", with("dish 11111 first 1 at 1;dish 11111 first 1 at 2").lover(), NONE);
        due("nobody does not count", with("dish 11111 first 1 at 1;dish 11111 first 1 at 2;dish 11111 first 1 at 1 with 7").lover(), 7);
        due("0", with("dish 11111 first 1 at 1 with 0").lover(), 0);
        due("of several the least", with("dish 11111 first 1 at 1 with 6;dish 11111 first 1 at 1 with 2;dish 11111 first 1 at 1 with 5").lover(), 2);
        due("the most", with("dish 11111 first 1 at 1 with 2;dish 11111 first 1 at 1 with 7;dish 11111 first 1 at 1 with 7").lover(), 7);
        due("two and two", with("dish 11111 first 1 at 1 with 7;dish 11111 first 1 at 1 with 7;dish 11111 first 1 at 1 with 0;dish 11111 first 1 at 1 with 0").lover(), 0);
    }

    private static void oldest() {
        term("OLDEST: the HAD DISH of the least FIRST (of several the least; none).", 30);
        due("without dishes", new BiteYears().oldest(), NONE);
        due("none had", dishes(2).oldest(), NONE);
        due("day 0", withFirst(1, 0).oldest(), 1);
        due("day 9999", withFirst(NONE, 9999).oldest(), 1);
        due("of several the least", withFirst(NONE, 8, 7, 7).oldest(), 2);
        due("the last of twelve", withFirst(9, 9, 9, 9, 9, 9, 9, 9, 9, 9, 9, 8).oldest(), 11);
    }

    private static void sad() {
        term("SAD: the DISH that TURNS by the most (of several the least; none).", 31);
        due("without dishes", new BiteYears().sad(), NONE);
        due("without a law the least", dishes(3).sad(), 0);
        BiteYears x = dishes(12);
        Check.law(x, "joy 5;grief 1 if dish > 10");
        due("the last of twelve, by less than 0", x.sad(), 11);
        Check.law(x, "grief 5;joy 1 if dish < 4");
        due("of several the least", x.sad(), 4);
        Check.law(x, lines(12, "joy 60"));
        due("by the least there is", x.sad(), 0);
        Check.law(x, "grief 5 if new;grief 6 if not new");
        x.had(7, 0, 0, NONE);
        due("a had one", x.sad(), 7);
    }

    private static void hosts() {
        term("HOSTS of two DISHES (a, b): each of two hosts serves a (0) or b (1), unseen by the other one: if both serve the same one, each has a half of what it PAYS (rounded down); "
            + "else each has what its own one PAYS, less 2, if both DISHES are NEAR each other: choices (2 times the first host's and the second one's) from which neither would have more by its other one alone: as bits.", 32);
        for (int payA = 0; payA <= 9; payA++) {
            for (int payB = 0; payB <= 9; payB++) {
                BiteYears x = with("dish 00000;dish 00005;wage 0", "pay " + payA + " if dish < 1;pay " + payB + " if dish > 0");
                due("near, pays " + payA + " and " + payB, x.hosts(0, 1), keptChoices(payA, payB, 2));
                due("near, pays " + payB + " and " + payA, x.hosts(1, 0), keptChoices(payB, payA, 2));
                x.reach(4);
                due("not near, pays " + payA + " and " + payB, x.hosts(0, 1), keptChoices(payA, payB, 0));
            }
        }
    }

    /** Tried out choice by choice. */
    private static int keptChoices(int payA, int payB, int less) {
        int[] pays = {payA, payB};
        int bits = 0;
        for (int choice = 0; choice < 4; choice++) {
            int first = choice / 2;
            int second = choice % 2;
            boolean kept = has(pays, first, second, less) >= has(pays, 1 - first, second, less) && has(pays, second, first, less) >= has(pays, 1 - second, first, less);
            bits |= kept ? 1 << choice : 0;
        }
        return bits;
    }

    private static int has(int[] pays, int own, int other, int less) {
        return own == other ? pays[own] / 2 : pays[own] - less;
    }

    private static void breaks() {
        term("BREAKS of a DISH: how many SPOONS of it, one behind another from now on, she takes till SORROW is 99 (0 to 100); none.", 33);
        String dish = "dish 11111 first 1 at 1";
        due("now 99", withSorrow(99, dish, "grief 1").breaks(0), 0);
        due("now 98, by 1", withSorrow(98, dish, "grief 1").breaks(0), 1);
        due("now 97, by 1", withSorrow(97, dish, "grief 1").breaks(0), 2);
        due("now 0, by 60", withSorrow(0, dish, "grief 60").breaks(0), 2);
        due("now 0, by 1", withSorrow(0, dish, "grief 1").breaks(0), 99);
        due("by 1, but for the first one", withSorrow(0, dish, "grief 1 if spoons > 0").breaks(0), 100);
        due("by 1, but for the first two", withSorrow(0, dish, "grief 1 if spoons > 1").breaks(0), NONE);
        due("by none", withSorrow(98, dish, "").breaks(0), NONE);
        due("by less than none", withSorrow(98, dish, "joy 1").breaks(0), NONE);
        due("till 98", withSorrow(0, dish, "grief 1 if sorrow < 98").breaks(0), NONE);
        due("a new one is had behind its first one", with("dish 11111", "grief 39 if new;grief 10 if not new").breaks(0), 7);
        unchanged("breaks", y -> y.breaks(3));
    }

    private static void twins() {
        term("TWINS: pairs of DISHES of the same TASTES: how many.", 34);
        due("without dishes", new BiteYears().twins(), 0);
        due("one", dishes(1).twins(), 0);
        due("none", dishes(12).twins(), 0);
        due("one pair", with("dish 11111;dish 11112;dish 11111 first 1 at 1").twins(), 1);
        due("three", with("dish 11111;dish 11111;dish 11111").twins(), 3);
        due("two pairs", with("dish 11111;dish 22222;dish 11111;dish 22222").twins(), 2);
        due("all of twelve", with(lines(12, "dish 11111")).twins(), 66);
        due("the same sum is not the same", with("dish 12000;dish 21000").twins(), 0);
        due("unlike in the last one alone", with("dish 11110;dish 11111").twins(), 0);
    }

    private static void next() {
        term("NEXT: the HAD DISH of the least FIRST that is later than AT (of several the least; none).", 35);
        due("without dishes", new BiteYears().next(), NONE);
        due("on the day where she is", withFirst(500).next(), NONE);
        due("ahead of it", withFirst(499).next(), NONE);
        due("a day later", withFirst(499, 500, 501).next(), 2);
        due("the least that is later", withFirst(9999, 502, 501, 503).next(), 2);
        due("of several the least", withFirst(NONE, 502, 501, 501).next(), 2);
        BiteYears x = withFirst(0, 1, 9999);
        x.spoon(0);
        due("behind day 0", x.next(), 1);
        x.spoon(1);
        due("behind day 1", x.next(), 2);
        x.spoon(2);
        due("behind the last day", x.next(), NONE);
    }

    private static void warlike() {
        term("WARLIKE: HAD DISHES whose FIRST is in the WAR, as bits.", 36);
        due("without dishes", new BiteYears().warlike(), 0);
        BiteYears x = withFirst(239, 240, 275, 310, 311, NONE);
        Check.life(x, "war 240 to 310");
        due("from its first day to its last one", x.warlike(), 2 | 4 | 8);
        Check.life(x, "war 0 to 999");
        due("all had ones", x.warlike(), 31);
        Check.life(x, "war 312 to 400");
        due("none", x.warlike(), 0);
        due("a new one is not had on day 0", dishes(1).warlike(), 0);
        due("had on day 0, in the war at first", withFirst(0, 1).warlike(), 1);
    }

    private static void company() {
        term("COMPANY of one: DISHES HAD first with that one, as bits.", 37);
        BiteYears x = withFirst(0, 1, 2, 3, 4, 5, 6, 7, 8, 9, 10, 11);
        for (int one = 0; one < 8; one++) {
            due("with " + one, x.company(one), 1 << one | (one < 4 ? 256 << one : 0));
        }
        due("new ones are with no one", dishes(12).company(0), 0);
        due("nor are those had with nobody", with("dish 11111 first 1 at 1").company(0), 0);
    }

    // ---- odds and shares ----

    private static void odds() {
        term("ODDS of N LOOKS (0 to 6) with K slips (0 to 6) at least, by SLIP, each alike, in 10000, rounded down.", 38);
        for (int slip : new int[] {0, 1, 33, 50, 99, 100}) {
            BiteYears x = with("slip " + slip);
            for (int n = 0; n <= 6; n++) {
                for (int k = 0; k <= 6; k++) {
                    due("odds(" + n + ", " + k + ") by " + slip, x.odds(n, k), oddsByAllWays(n, k, slip));
                }
            }
        }
        due("the odds of no look", with("slip 50").odds(0, 0), 10000);
        due("rounded down: 156.25", with("slip 50").odds(6, 6), 156);
        due("rounded down: 9999.99..", with("slip 99").odds(6, 1), 9999);
        refused("7 looks", ARGUMENT, x -> x.odds(7, 0));
        refused("7 slips", ARGUMENT, x -> x.odds(6, 7));
        refused("-1 looks", ARGUMENT, x -> x.odds(-1, 0));
        refused("-1 slips", ARGUMENT, x -> x.odds(0, -1));
    }

    private static int oddsByAllWays(int looks, int slips, int slip) {
        long ways = 0;
        long all = 1;
        for (int way = 0; way < 1 << looks; way++) {
            long parts = 1;
            for (int look = 0; look < looks; look++) {
                parts *= (way >> look & 1) != 0 ? slip : 100 - slip;
            }
            ways += Integer.bitCount(way) >= slips ? parts : 0;
        }
        for (int look = 0; look < looks; look++) {
            all *= 100;
        }
        return (int) (ways * 10000 / all);
    }

    private static void share() {
        term("SHARE of a PLACE: DISHES HAD there in hundredths of all HAD, rounded down (0 without).", 39);
        due("without dishes", new BiteYears().share(0), 0);
        due("without had ones", dishes(3).share(0), 0);
        due("all", with("dish 11111 first 1 at 7;dish 11111 first 1 at 7;dish 11111").share(7), 100);
        due("one alone", with("dish 11111 first 1 at 7").share(7), 100);
        due("none there", with("dish 11111 first 1 at 7").share(0), 0);
        due("all of twelve", with(lines(12, "dish 11111 first 1 at 3")).share(3), 100);
        BiteYears x = with("dish 11111 first 1 at 7;dish 11111 first 1 at 7;dish 11111 first 1 at 0");
        due("66.6", x.share(7), 66);
        due("33.3", x.share(0), 33);
        due("8.3", with(lines(11, "dish 11111 first 1 at 0") + ";dish 11111 first 1 at 1").share(1), 8);
        due("91.6", with(lines(11, "dish 11111 first 1 at 0") + ";dish 11111 first 1 at 1").share(0), 91);
    }

    // ---- trials ----

    private static BiteYears triedOne() {
        return with("dish 11111 first 10 at 1;dish 22222 first 20 at 1;dish 99999;wage 3", "grief 9;pay 4 if dish > 0;pay 11 if new");
    }

    private static void trial() {
        term("TRIAL of N EVENINGS (0 to 60) from now (draws, too; nothing stays): SORROW then; PAID then.", 40);
        for (int n : new int[] {0, 1, 2, 59, 60}) {
            for (int seed : new int[] {1, 77, -5}) {
                BiteYears x = triedOne();
                x.spoon(0);
                x.seed(seed);
                BiteYears y = triedOne();
                y.spoon(0);
                y.seed(seed);
                if (n > 0) {
                    y.evenings(n);
                }
                due("sorrow behind " + n + " from " + seed, x.trial(n, false), y.count(5));
                due("paid behind " + n + " from " + seed, x.trial(n, true), y.count(14));
            }
        }
        refused("-1", ARGUMENT, x -> x.trial(-1, true));
        refused("61", ARGUMENT, x -> x.trial(61, false));
        unchanged("trial 60", x -> x.trial(60, true));
        unchanged("trial 0", x -> x.trial(0, false));
        due("paid is 9999 at most", EdgesOfTerms.withPaid(9999).trial(60, true), 9999);
        BiteYears sad = withSorrow(99, "dish 11111 first 1 at 1", "");
        due("from sorrow 99 on", sad.trial(1, false), 49);
    }

    private static void span() {
        term("SPAN: the least and the greatest PAID so from SEED 1, 2, .. 6.", 41);
        boolean[] first = new boolean[7];
        boolean[] last = new boolean[7];
        for (int n = 0; n <= 60; n++) {
            BiteYears x = triedOne();
            x.spoon(0);
            int[] paid = new int[8];
            for (int seed = 0; seed <= 7; seed++) {
                x.seed(seed);
                paid[seed] = x.trial(n, true);
            }
            int least = 1;
            int greatest = 1;
            for (int seed = 2; seed <= 6; seed++) {
                least = paid[seed] < paid[least] ? seed : least;
                greatest = paid[seed] > paid[greatest] ? seed : greatest;
            }
            first[least] |= n > 0 && paid[least] < paid[greatest];
            last[greatest] |= n > 0 && paid[least] < paid[greatest];
            x.seed(9);
            due("the least of " + n, x.span(n, false), paid[least]);
            due("the greatest of " + n, x.span(n, true), paid[greatest]);
        }
        for (int seed = 1; seed <= 6; seed += 5) {
            due("seed " + seed + " was the least or the greatest somewhere", first[seed] || last[seed], true);
        }
        refused("-1", ARGUMENT, x -> x.span(-1, true));
        refused("61", ARGUMENT, x -> x.span(61, false));
        unchanged("span 60", x -> x.span(60, true));
        due("paid is 9999 at most", EdgesOfTerms.withPaid(9999).span(60, false), 9999);
    }

    private static void led() {
        term("LED: how many rows of THE LOG are of a DISH; the EVENING of the latest (none).", 42);
        BiteYears x = with("dish 11111 first 10 at 1;dish 22222");
        due("rows of none", x.led(0, false), 0);
        due("evening of none", x.led(0, true), NONE);
        x.spoon(0);
        due("rows", x.led(0, false), 1);
        due("evening 0", x.led(0, true), 0);
        due("evening of the other one", x.led(1, true), NONE);
        x.crust();
        x.crust();
        x.spoon(0);
        x.spoon(1);
        due("the latest of several evenings", x.led(0, true), 2);
        for (int i = 4; i <= 60; i++) {
            x.spoon(1);
        }
        due("of 60 rows", x.led(0, false), 2);
        x.spoon(1);
        due("of 61 the first is gone", x.led(0, false), 1);
        due("the evening of the other one", x.led(0, true), 2);
        x.spoon(1);
        due("it is gone", x.led(0, false), 0);
        due("so is its evening", x.led(0, true), NONE);
        due("all rows are of one", x.led(1, false), 60);
    }

    // ---- acts undone, and the image ----

    private static void undone() {
        term("UNDONE: the latest ACT not undone yet (12 are remembered; EVENINGS of one call are one): all is as ahead of it (but for the TAPE, fault(), THE IMAGE).", 45);
        for (int acts : new int[] {0, 1, 11, 12, 13, 24, 25}) {
            BiteYears x = new BiteYears();
            for (int i = 0; i < acts; i++) {
                x.crust();
            }
            int kept = Math.min(12, acts);
            due("acts that can be undone of " + acts, x.count(16), kept);
            for (int i = 1; i <= kept; i++) {
                due("undo " + i + " of " + acts, x.undo(), true);
                dueRow("today and acts then", counts(x, 3, 16), 500 + acts - i, kept - i);
            }
            due("undo once more of " + acts, x.undo(), false);
            dueRow("today stays", counts(x, 3, 16), 500 + acts - kept, 0);
        }
        BiteYears x = new BiteYears();
        for (int i = 0; i < 12; i++) {
            x.crust();
        }
        x.undo();
        x.undo();
        x.crust();
        dueRow("an act behind two undone", counts(x, 3, 16), 511, 11);
        x.evenings(60);
        due("60 evenings are one act", x.count(16), 12);
        x.undo();
        dueRow("60 evenings undone", counts(x, 3, 7, 16), 511, 11, 11);
        undoneAll();
        undoneRows();
        undoneActs();
        undoneButFor();
    }

    private static void undoneAll() {
        BiteYears x = full();
        for (int i = 0; i < 10; i++) {
            due("undo " + i + " of the full one", x.undo(), true);
        }
        dueRow("all is as its texts told", counts(x, 0, 1, 2, 3, 4, 5, 6, 7, 8, 9, 10, 11, 12, 13, 14, 15, 16), 6, 1, 4, 600, 600, 0, 0, 0, 5, 240, 310, 50, 5, 2, 0, 0, 0);
        due("the seed too", seedOf(x), 1);
        dueRow("the dishes too", new int[] {x.dish(0, 5), x.dish(1, 5), x.dish(2, 5), x.dish(3, 5), x.dish(4, 5), x.dish(5, 5)}, 120, 250, 305, NONE, NONE, 120);
    }

    /** The log is full, so that each spoon pushes a row out. */
    private static void undoneRows() {
        BiteYears x = withSixtyRows();
        for (int i = 0; i < 12; i++) {
            x.spoon(1);
        }
        for (int i = 0; i < 12; i++) {
            x.undo();
        }
        dueRows(x, "acts undone");
    }

    private static BiteYears withSixtyRows() {
        BiteYears x = with("dish 11111 first 10 at 1;dish 22222 first 20 at 2");
        for (int i = 0; i < 60; i++) {
            x.spoon(i % 7 == 3 ? 1 : 0);
            if (i % 5 == 4) {
                x.crust();
            }
        }
        return x;
    }

    private static void dueRows(BiteYears x, String when) {
        for (int i = 0; i < 60; i++) {
            int dish = i % 7 == 3 ? 1 : 0;
            dueRow("row " + i + " behind " + when, row(x, 59 - i), i / 5, dish, dish, dish * 10 + 10);
        }
    }

    private static void undoneActs() {
        Use[] acts = {x -> x.spoon(1), BiteYears::crust, x -> x.had(1, 5, 6, 7), x -> x.forget(0), x -> x.reach(0), x -> x.house(0), BiteYears::look, x -> x.evenings(1), x -> x.evenings(60)};
        String[] names = {"a spoon", "the crust", "had", "forget", "reach", "house", "a look", "an evening", "60 evenings"};
        for (int i = 0; i < acts.length; i++) {
            Use act = acts[i];
            unchanged(names[i] + " undone", x -> {
                act.on(x);
                return x.undo();
            });
        }
        // The seed that an act used is as ahead of it.
        unchanged("a seed told behind an act that is undone", x -> {
            x.crust();
            x.seed(99);
            return x.undo();
        });
    }

    private static void undoneButFor() {
        BiteYears x = full();
        x.crust();
        x.image();
        int today = x.count(3);
        Check.tape(x, "slip 101");
        try {
            x.life();
        } catch (IllegalArgumentException e) {
            due("fault ahead of undoing", x.fault(), 5);
        }
        Check.tape(x, "wage 9");
        x.undo();
        due("today behind undoing", x.count(3), today - 1);
        due("the fault stays", x.fault(), 5);
        due("the tape stays", tapeLength(x), 6);
        x.life();
        due("as it was", x.count(13), 9);
        due("the image stays", x.back(), true);
        due("as it was kept", x.count(3), today);
    }

    private static void noneRemembered() {
        term("A text, going back: none are remembered.", 4, 5, 45, 47);
        BiteYears x = full();
        due("acts ahead of a life", x.count(16) > 0, true);
        Check.life(x, "");
        due("acts behind a life", x.count(16), 0);
        due("undo behind a life", x.undo(), false);
        x.crust();
        Check.law(x, "");
        due("acts behind a law", x.count(16), 0);
        due("undo behind a law", x.undo(), false);
        x.crust();
        x.back();
        due("acts behind going back", x.count(16), 0);
        due("undo behind going back", x.undo(), false);
        x.crust();
        due("an act behind them", x.count(16), 1);
        BiteYears y = new BiteYears();
        y.crust();
        due("going back where there is no image", y.back(), false);
        due("the act stays", y.count(16), 1);
        x.image();
        due("keeping an image forgets no act", x.count(16), 1);
        wrongLife(Edges::full, "x", 0);
        wrongLaw(Edges::full, "x", 0);
    }

    private static void image() {
        term("THE IMAGE (one) of all may be kept, and gone back to (but for the TAPE, fault() and THE IMAGE itself).", 46, 47);
        BiteYears x = new BiteYears();
        due("without one", x.back(), false);
        x.image();
        x.crust();
        x.image();
        x.crust();
        due("with two kept", x.back(), true);
        due("the latest alone is there", x.count(3), 501);
        x.crust();
        due("again", x.back(), true);
        due("it stays", x.count(3), 501);
        BiteYears y = full();
        Check.life(y, "");
        Check.law(y, "grief 3 if alone;pay 4 if not new");
        y.crust();
        y.image();
        dueGoneBack(y);
        BiteYears z = withSixtyRows();
        z.image();
        z.evenings(60);
        z.back();
        dueRows(z, "going back");
    }

    /** All is changed, and then as it was. */
    private static void dueGoneBack(BiteYears x) {
        int[] counts = counts(x, 0, 1, 2, 3, 4, 5, 6, 7, 8, 9, 10, 11, 12, 13, 14, 15);
        int[] rows = {x.log(0, 1), x.log(1, 1), x.dish(0, 9), x.dish(0, 10), x.dish(0, 5), x.dish(4, 5), x.left(), seedOf(x)};
        Check.life(x, "dish 33333;today 7;war 1 to 2;reach 3;slip 4;house 5;wage 6");
        Check.law(x, "grief 5;joy 1;pay 2");
        x.spoon(1);
        x.evenings(9);
        x.forget(0);
        x.had(4, 1, 1, 1);
        x.seed(99);
        Check.tape(x, "slip");
        try {
            x.life();
        } catch (IllegalArgumentException e) {
            due("fault ahead of going back", x.fault(), 4);
        }
        Check.tape(x, "wage 9");
        x.back();
        dueRow("counts behind going back", counts(x, 0, 1, 2, 3, 4, 5, 6, 7, 8, 9, 10, 11, 12, 13, 14, 15), counts);
        dueRow("rows, law and dishes behind going back", new int[] {x.log(0, 1), x.log(1, 1), x.dish(0, 9), x.dish(0, 10), x.dish(0, 5), x.dish(4, 5), x.left(), seedOf(x)}, rows);
        due("the fault stays", x.fault(), 4);
        due("the tape stays", tapeLength(x), 6);
        x.life();
        due("as it was", x.count(13), 9);
        due("the image stays", x.back(), true);
        dueRow("as it was kept", counts(x, 0, 1, 2, 3, 4, 5, 6, 7, 8, 9, 10, 11, 12, 13, 14, 15), counts);
    }

    // ---- exceptions ----

    private static void severalExceptions() {
        term("Of several exceptions the one told first is thrown;", 4, 7, 11, 13, 19, 32);
        refused("dish: no dish, no what", INDEX, x -> x.dish(6, 11));
        refused("spoon: no dish, sorrow 99", INDEX, Edges::saddest, x -> x.spoon(6));
        refused("had: no dish, no day", INDEX, x -> x.had(6, 10000, 0, 0));
        refused("had: no dish, no company", INDEX, x -> x.had(-1, 0, 0, 8));
        refused("had: no place, no day, no company", INDEX, x -> x.had(0, -1, 8, 8));
        refused("had: no place, no company", INDEX, x -> x.had(0, 0, -1, -2));
        refused("hosts: no dish, twice the same", INDEX, x -> x.hosts(6, 6));
        refusedTape("menu: no dish, no what", ARGUMENT, bytes(6), x -> x.menu(4));
        refusedTape("menu: 41 bytes, no what", ARGUMENT, "\0".repeat(41), x -> x.menu(-1));
        wrongLife(() -> {
            BiteYears x = new BiteYears();
            for (int i = 0; i < 12; i++) {
                Check.life(x, "");
            }
            return x;
        }, "slip 101", 5);
    }

    private static void whatThrowsChangesNothing() {
        term("a call that throws changes nothing but the TAPE, where it is used up.", 4, 5, 11, 14, 18, 19, 22, 23, 24, 25);
        refused("spoon", STATE, Edges::saddest, x -> x.spoon(0));
        refused("spoon of none", INDEX, x -> x.spoon(6));
        refused("forget", STATE, x -> x.forget(1));
        refused("evenings", ARGUMENT, x -> x.evenings(61));
        refusedTape("menu", ELEMENT, bytes(0), x -> x.menu(4));
        refusedTape("menu of none", ARGUMENT, bytes(6), x -> x.menu(0));
        refusedTape("he", ARGUMENT, bytes(1), BiteYears::he);
        refusedTape("unknown", ARGUMENT, "\0".repeat(21), BiteYears::unknown);
        refusedTape("serve", ARGUMENT, "\0".repeat(21), BiteYears::serve);
        refusedTape("jars", ARGUMENT, bytes(1), x -> x.jars(NONE));
        wrongLife(Edges::full, "slip 1;", 7);
        wrongLaw(Edges::full, "pay 1;", 6);
    }

    private static void index() {
        term("IndexOutOfBoundsException: there is no such DISH, PLACE.", 7, 8, 9, 11, 13, 14, 16, 26, 32, 33, 39, 42);
        Use[] last = {x -> x.dish(5, 0), x -> x.far(5, 5), x -> x.near(5), x -> x.spoon(5), x -> x.had(5, 0, 7, 0), x -> x.forget(5), x -> x.hosts(5, 0), x -> x.breaks(5), x -> x.led(5, true),
            x -> x.house(7), x -> x.kitchen(7), x -> x.share(7)};
        for (int i = 0; i < last.length; i++) {
            due("the last dish or place in call " + i, last[i].on(full()) instanceof Integer, true);
        }
        for (int none : new int[] {LEAST, -1, 6, 12, GREATEST}) {
            refused("dish " + none, INDEX, x -> x.dish(none, 0));
            refused("far " + none, INDEX, x -> x.far(none, 0));
            refused("far from " + none, INDEX, x -> x.far(0, none));
            refused("near " + none, INDEX, x -> x.near(none));
            refused("spoon " + none, INDEX, x -> x.spoon(none));
            refused("had " + none, INDEX, x -> x.had(none, 0, 0, 0));
            refused("forget " + none, INDEX, x -> x.forget(none));
            refused("hosts " + none, INDEX, x -> x.hosts(none, 0));
            refused("hosts and " + none, INDEX, x -> x.hosts(0, none));
            refused("breaks " + none, INDEX, x -> x.breaks(none));
            refused("led " + none, INDEX, x -> x.led(none, false));
        }
        for (int none : new int[] {LEAST, -1, 8, GREATEST}) {
            refused("had at " + none, INDEX, x -> x.had(0, 0, none, 0));
            refused("house " + none, INDEX, x -> x.house(none));
            refused("kitchen " + none, INDEX, x -> x.kitchen(none));
            refused("share " + none, INDEX, x -> x.share(none));
        }
    }

    private static void argument() {
        term("IllegalArgumentException: a number is none, or two are one.", 13, 15, 18, 20, 32, 37, 38, 40, 41);
        for (int none : new int[] {LEAST, -2, 10000, GREATEST}) {
            refused("had on day " + none, ARGUMENT, x -> x.had(0, none, 0, 0));
            refused("had with " + none, ARGUMENT, x -> x.had(0, 0, 0, none));
            refused("reach " + none, ARGUMENT, x -> x.reach(none));
            refused("evenings " + none, ARGUMENT, x -> x.evenings(none));
            refused("fewest " + none, ARGUMENT, x -> x.fewest(none, 0));
            refused("fewest, not " + none, ARGUMENT, x -> x.fewest(0, none));
            refused("company " + none, ARGUMENT, x -> x.company(none));
            refused("odds of " + none, ARGUMENT, x -> x.odds(none, 0));
            refused("odds with " + none, ARGUMENT, x -> x.odds(0, none));
            refused("trial " + none, ARGUMENT, x -> x.trial(none, true));
            refused("span " + none, ARGUMENT, x -> x.span(none, true));
        }
        refused("hosts of one", ARGUMENT, x -> x.hosts(0, 0));
        refused("hosts of the last one", ARGUMENT, x -> x.hosts(5, 5));
        due("hosts of two", full().hosts(0, 5) >= 0, true);
    }

    private static void state() {
        term("IllegalStateException: it cannot be.", 11, 14);
        refused("a spoon with sorrow 99", STATE, Edges::saddest, x -> x.spoon(0));
        refused("to forget a new one", STATE, x -> x.forget(1));
        due("to forget a had one", full().forget(0), 120);
    }

    private static void sets() {
        term("Sets are bits; of none they count for nothing.", 21, 27);
        BiteYears x = withFirst(5, 6, 7, NONE, NONE, NONE);
        due("dated: bits of none", x.dated(-1 << 6), NONE);
        due("dated: bits of none and of some", x.dated(-1 << 6 | 3), 6);
        due("dated: the last bit that counts", x.dated(32), NONE);
        due("order: bits of none", x.order(-1 << 6, NONE), 0);
        due("order: bits of none have no first", x.order(-1 << 6, 0), NONE);
        due("order: bits of none and of six", x.order(-1, 5), 5);
        due("order: behind them", x.order(-1, 6), NONE);
        BiteYears twelve = dishes(12);
        due("order: of twelve bit 12 counts for nothing", twelve.order(-1 << 12, 0), NONE);
        due("order: of twelve bit 11 counts", twelve.order(-1 << 11, 0), 11);
        refused("order: seven of twelve and bits of none", ARGUMENT, () -> dishes(12), y -> y.order(-1 << 5, NONE));
        due("order: six of twelve and bits of none", twelve.order(-1 << 6, 5), 11);
        due("order without dishes", new BiteYears().order(-1, NONE), 0);
        due("dated: without dishes", new BiteYears().dated(-1), NONE);
    }
}
