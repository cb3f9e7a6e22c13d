/** Boundaries under the headings of promises 26 to 48. */
final class EdgesOfMoreCalls extends Edges {
    static void run() {
        kitchen();
        dated();
        gapLoverOldestSad();
        hosts();
        breaks();
        twinsNextWarlike();
        company();
        odds();
        share();
        trial();
        span();
        led();
        log();
        logOtherWhat();
        seed();
        undo();
        image();
        back();
        backWithout();
        count();
        countOther();
    }

    private static void kitchen() {
        of("Promise 26", "KITCHEN, as bits.");
        BiteYears x = with("dish 11111 first 1 at 0;dish 11111 first 1 at 7;dish 11111;dish 11111 first 1 at 7");
        due("at 0", x.kitchen(0), 1);
        due("at 7", x.kitchen(7), 10);
        due("at 1", x.kitchen(1), 0);
        for (int none : new int[] {LEAST, -1, 8, GREATEST}) {
            refused("kitchen(" + none + ")", INDEX, y -> y.kitchen(none));
        }
        unchanged("kitchen", y -> y.kitchen(1));
    }

    private static void dated() {
        of("Promise 27", "DATED; NONE.");
        BiteYears x = with("dish 11111 first 0 at 0;dish 11111 first 999 at 7;dish 11111");
        due("day 0", x.dated(1), 0);
        due("day 999", x.dated(3), 999);
        due("a new one", x.dated(7), NONE);
        due("none", x.dated(0), NONE);
        due("bits of none", x.dated(8), NONE);
        due("bits of none and of one", x.dated(LEAST | 2), 999);
        unchanged("dated", y -> y.dated(-1));
    }

    private static void gapLoverOldestSad() {
        of("Promise 28", "GAP.");
        BiteYears x = with("dish 11111 first 0 at 0 with 7;dish 11111 first 999 at 7;dish 11111", "joy 5;grief 3 if new");
        due("of two", x.gap(), 999);
        x.forget(0);
        due("of one", x.gap(), 0);
        due("of none", new BiteYears().gap(), 0);
        unchanged("gap", BiteYears::gap);
        of("Promise 29", "LOVER; NONE.");
        due("none", x.lover(), NONE);
        x.had(0, 5, 5, 0);
        due("0", x.lover(), 0);
        due("of none", new BiteYears().lover(), NONE);
        unchanged("lover", BiteYears::lover);
        of("Promise 30", "OLDEST; NONE.");
        due("of two", x.oldest(), 0);
        due("of none", new BiteYears().oldest(), NONE);
        due("of new ones", dishes(12).oldest(), NONE);
        unchanged("oldest", BiteYears::oldest);
        of("Promise 31", "SAD; NONE.");
        due("of three", x.sad(), 2);
        due("of one", dishes(1).sad(), 0);
        due("of none", new BiteYears().sad(), NONE);
        unchanged("sad", BiteYears::sad);
    }

    private static void hosts() {
        of("Promise 32", "HOSTS, as bits.");
        BiteYears x = with("dish 00000;dish 00005;dish 00006;wage 2");
        due("near by the reach", x.hosts(0, 1), 9);
        due("far by more", x.hosts(0, 2), 6);
        due("the last one first", x.hosts(2, 0), 6);
        for (int none : new int[] {LEAST, -1, 6, GREATEST}) {
            refused("hosts(" + none + ", 0)", INDEX, y -> y.hosts(none, 0));
            refused("hosts(0, " + none + ")", INDEX, y -> y.hosts(0, none));
            refused("hosts(" + none + ", " + none + ")", INDEX, y -> y.hosts(none, none));
        }
        unchanged("hosts", y -> y.hosts(0, 3));
        of("Promise 32", "IllegalArgumentException: both are one.");
        for (int dish = 0; dish < 6; dish++) {
            int one = dish;
            refused("hosts(" + dish + ", " + dish + ")", ARGUMENT, y -> y.hosts(one, one));
        }
        due("twins are two", with("dish 11111;dish 11111;wage 2").hosts(0, 1), 9);
    }

    private static void breaks() {
        of("Promise 33", "BREAKS; NONE.");
        BiteYears x = with("dish 11111 first 1 at 1;dish 11111 first 1 at 1", "grief 1 if spoons > 0;grief 60 if dish > 0");
        due("100", x.breaks(0), 100);
        due("the last one", x.breaks(1), 2);
        Check.law(x, "grief 1 if spoons > 1");
        due("101", x.breaks(0), NONE);
        due("0", saddest().breaks(5), 0);
        for (int none : new int[] {LEAST, -1, 6, GREATEST}) {
            refused("breaks(" + none + ")", INDEX, y -> y.breaks(none));
            refused("breaks(" + none + ") with sorrow 99", INDEX, Edges::saddest, y -> y.breaks(none));
        }
        unchanged("breaks", y -> y.breaks(3));
    }

    private static void twinsNextWarlike() {
        of("Promise 34", "TWINS.");
        due("none", new BiteYears().twins(), 0);
        due("all", with(lines(12, "dish 99999")).twins(), 66);
        unchanged("twins", BiteYears::twins);
        of("Promise 35", "NEXT; NONE.");
        BiteYears x = with("dish 11111 first 500 at 1;dish 11111 first 501 at 1;war 501 to 501");
        due("a day later", x.next(), 1);
        x.crust();
        due("on that day", x.next(), NONE);
        due("of none", new BiteYears().next(), NONE);
        unchanged("next", BiteYears::next);
        of("Promise 36", "WARLIKE, as bits.");
        due("of one day", x.warlike(), 2);
        due("of none", new BiteYears().warlike(), 0);
        unchanged("warlike", BiteYears::warlike);
    }

    private static void company() {
        of("Promise 37", "COMPANY, as bits.");
        BiteYears x = with("dish 11111 first 1 at 1 with 0;dish 11111 first 1 at 1 with 7;dish 11111 first 1 at 1;dish 11111 first 1 at 1 with 7");
        due("0", x.company(0), 1);
        due("7", x.company(7), 10);
        due("1", x.company(1), 0);
        unchanged("company", y -> y.company(3));
        of("Promise 37", "IllegalArgumentException: that one is none (0 to 7).");
        for (int none : new int[] {LEAST, -2, -1, 8, 9, GREATEST}) {
            refused("company(" + none + ")", ARGUMENT, y -> y.company(none));
        }
        due("0 is one", full().company(0), 0);
        due("7 is one", full().company(7), 0);
    }

    private static void odds() {
        of("Promise 38", "ODDS.");
        BiteYears x = with("slip 50");
        due("0 of 0", x.odds(0, 0), 10000);
        due("1 of 0", x.odds(0, 1), 0);
        due("6 of 6", x.odds(6, 6), 156);
        due("0 of 6", x.odds(6, 0), 10000);
        due("6 of 0", x.odds(0, 6), 0);
        due("6 of 5", x.odds(5, 6), 0);
        unchanged("odds", y -> y.odds(6, 3));
        of("Promise 38", "IllegalArgumentException: N or K are none.");
        for (int none : new int[] {LEAST, -1, 7, GREATEST}) {
            refused("odds(" + none + ", 0)", ARGUMENT, y -> y.odds(none, 0));
            refused("odds(0, " + none + ")", ARGUMENT, y -> y.odds(0, none));
            refused("odds(6, " + none + ")", ARGUMENT, y -> y.odds(6, none));
            refused("odds(" + none + ", " + none + ")", ARGUMENT, y -> y.odds(none, none));
        }
        due("6 and 6 are some", full().odds(6, 6), 156);
    }

    private static void share() {
        of("Promise 39", "SHARE.");
        BiteYears x = with("dish 11111 first 1 at 0;dish 11111 first 1 at 7;dish 11111 first 1 at 7;dish 11111");
        due("at 0", x.share(0), 33);
        due("at 7", x.share(7), 66);
        due("at 1", x.share(1), 0);
        due("without", new BiteYears().share(7), 0);
        for (int none : new int[] {LEAST, -1, 8, GREATEST}) {
            refused("share(" + none + ")", INDEX, y -> y.share(none));
            refused("share(" + none + ") without", INDEX, BiteYears::new, y -> y.share(none));
        }
        unchanged("share", y -> y.share(1));
    }

    private static void trial() {
        of("Promise 40", "TRIAL: SORROW (paid false), or PAID.");
        BiteYears x = withSorrow(9, "dish 11111 first 1 at 1", "grief 4;pay 2");
        x.seed(seedThatDraws(0));
        dueRow("of 0", new int[] {x.trial(0, false), x.trial(0, true)}, 9, 1);
        dueRow("of 1", new int[] {x.trial(1, false), x.trial(1, true)}, 6, 4);
        dueRow("again of 1", new int[] {x.trial(1, false), x.trial(1, true)}, 6, 4);
        due("of 60", x.trial(60, true) > 60, true);
        dueRow("without dishes", new int[] {new BiteYears().trial(60, false), new BiteYears().trial(60, true)}, 0, 0);
        unchanged("trial 0", y -> y.trial(0, true));
        unchanged("trial 60", y -> y.trial(60, false));
        of("Promise 40", "IllegalArgumentException: N is none.");
        for (int none : new int[] {LEAST, -1, 61, GREATEST}) {
            refused("trial(" + none + ", true)", ARGUMENT, y -> y.trial(none, true));
            refused("trial(" + none + ", false)", ARGUMENT, y -> y.trial(none, false));
        }
        due("0 is one", full().trial(0, true), full().count(14));
    }

    private static void span() {
        of("Promise 41", "SPAN: the least (most false), or the greatest.");
        BiteYears x = with("dish 11111 first 1 at 1", "pay 4");
        dueRow("of 0", new int[] {x.span(0, false), x.span(0, true)}, 0, 0);
        int least = GREATEST;
        int greatest = 0;
        for (int seed = 1; seed <= 6; seed++) {
            int paid = 5 * (drawOf(step(seed)) % 4 + 1);
            least = Math.min(least, paid);
            greatest = Math.max(greatest, paid);
        }
        dueRow("of 1", new int[] {x.span(1, false), x.span(1, true)}, least, greatest);
        due("they are two", least < greatest, true);
        x.seed(77);
        dueRow("of 1 whatever the seed is", new int[] {x.span(1, false), x.span(1, true)}, least, greatest);
        due("of 60", x.span(60, true) > 60, true);
        unchanged("span 0", y -> y.span(0, true));
        unchanged("span 60", y -> y.span(60, false));
        of("Promise 41", "IllegalArgumentException: N is none.");
        for (int none : new int[] {LEAST, -1, 61, GREATEST}) {
            refused("span(" + none + ", true)", ARGUMENT, y -> y.span(none, true));
            refused("span(" + none + ", false)", ARGUMENT, y -> y.span(none, false));
        }
        due("0 is one", full().span(0, true), full().count(14));
    }

    private static void led() {
        of("Promise 42", "LED: how many rows (evening false), or the EVENING; NONE.");
        BiteYears x = dishes(12);
        dueRow("of none", new int[] {x.led(11, false), x.led(11, true)}, 0, NONE);
        x.spoon(11);
        dueRow("of one", new int[] {x.led(11, false), x.led(11, true)}, 1, 0);
        dueRow("of another one", new int[] {x.led(0, false), x.led(0, true)}, 0, NONE);
        for (int i = 0; i < 60; i++) {
            x.crust();
            x.spoon(0);
        }
        dueRow("of 60", new int[] {x.led(0, false), x.led(0, true)}, 60, 60);
        dueRow("of one that is gone", new int[] {x.led(11, false), x.led(11, true)}, 0, NONE);
        for (int none : new int[] {LEAST, -1, 6, GREATEST}) {
            refused("led(" + none + ", true)", INDEX, y -> y.led(none, true));
            refused("led(" + none + ", false)", INDEX, y -> y.led(none, false));
        }
        unchanged("led", y -> y.led(0, true));
    }

    private static void log() {
        of("Promise 43", "THE LOG so many ago (0 the latest) what 0 EVENING, 1 the DISH, 2 what it CALLED up (NONE), 3 AT; - 2 without.");
        BiteYears x = with("dish 11111 first 10 at 1;dish 11112;dish 99999;reach 1");
        dueRow("without", row(x, 0), -2, -2, -2, -2);
        x.crust();
        x.spoon(1);
        dueRow("the latest", row(x, 0), 1, 1, 0, 10);
        dueRow("behind the oldest", row(x, 1), -2, -2, -2, -2);
        x.spoon(2);
        dueRow("the latest", row(x, 0), 1, 2, NONE, 501);
        dueRow("one ago", row(x, 1), 1, 1, 0, 10);
        for (int none : new int[] {LEAST, -2, -1, 2, 59, 60, GREATEST}) {
            dueRow(none + " ago", row(x, none), -2, -2, -2, -2);
        }
        for (int i = 3; i <= 59; i++) {
            x.spoon(0);
        }
        dueRow("59 of 59", row(x, 59), -2, -2, -2, -2);
        x.spoon(0);
        dueRow("59 of 60", row(x, 59), 1, 1, 0, 10);
        x.spoon(0);
        dueRow("59 of 61", row(x, 59), 1, 2, NONE, 501);
        dueRow("60 of 61", row(x, 60), -2, -2, -2, -2);
        unchanged("log", y -> y.log(0, 3));
    }

    private static void logOtherWhat() {
        of("Promise 43", "NoSuchElementException: another what.");
        for (int what : new int[] {LEAST, -1, 4, GREATEST}) {
            refused("log(0, " + what + ")", ELEMENT, y -> y.log(0, what));
        }
        due("what 0", full().log(0, 0), 2);
        due("what 3", full().log(0, 3), 120);
    }

    private static void seed() {
        of("Promise 44", "SEED: what it was.");
        BiteYears x = new BiteYears();
        due("at first", x.seed(LEAST), 1);
        due("the least", x.seed(GREATEST), LEAST);
        due("the greatest", x.seed(0), GREATEST);
        due("0", x.seed(-1), 0);
        due("-1", x.seed(5), -1);
        due("no act", x.count(16), 0);
        x.look();
        due("behind a draw", x.seed(5), step(5));
    }

    private static void undo() {
        of("Promise 45", "UNDONE: whether there was one.");
        BiteYears x = new BiteYears();
        due("none", x.undo(), false);
        unchanged("undo of none", BiteYears::new, BiteYears::undo);
        x.crust();
        due("one", x.undo(), true);
        due("none then", x.undo(), false);
        for (int i = 0; i < 13; i++) {
            x.crust();
        }
        for (int i = 1; i <= 12; i++) {
            due("the " + i + "th", x.undo(), true);
        }
        due("the 13th", x.undo(), false);
        due("it is not undone", x.count(3), 501);
    }

    private static void image() {
        of("Promise 46", "THE IMAGE is kept.");
        BiteYears x = full();
        x.image();
        int today = x.count(3);
        x.crust();
        x.back();
        due("the latest one", x.count(3), today);
        BiteYears y = new BiteYears();
        y.image();
        due("of a new object", y.back(), true);
        dueRow("as it was", counts(y, 0, 2, 3), 0, NONE, 500);
        BiteYears z = full();
        int[] all = counts(z, 0, 1, 2, 3, 4, 5, 6, 7, 8, 9, 10, 11, 12, 13, 14, 15, 16);
        z.image();
        dueRow("nothing else changes", counts(z, 0, 1, 2, 3, 4, 5, 6, 7, 8, 9, 10, 11, 12, 13, 14, 15, 16), all);
        due("nor the tape", tapeLength(z), 7);
        due("nor the fault", z.fault(), 4);
    }

    private static void back() {
        of("Promise 47", "One goes back to THE IMAGE: true;");
        BiteYears x = full();
        due("once", x.back(), true);
        dueRow("texts, law, today, sorrow, rows, acts", counts(x, 1, 2, 3, 5, 15, 16), 1, 4, 601, 0, 1, 0);
        due("twice", x.back(), true);
        x.crust();
        due("three times", x.back(), true);
        due("today", x.count(3), 601);
        due("the tape stays", tapeLength(x), 7);
        due("the fault stays", x.fault(), 4);
    }

    private static void backWithout() {
        of("Promise 47", "false, and nothing happens, if none was kept.");
        due("of a new object", new BiteYears().back(), false);
        unchanged("back of a new object", BiteYears::new, BiteYears::back);
        Make without = () -> {
            BiteYears x = with(Check.LIFE, "grief 3");
            x.spoon(0);
            x.crust();
            return taped(x, "slip 77");
        };
        due("without an image", without.fresh().back(), false);
        unchanged("back without an image", without, BiteYears::back);
        BiteYears x = without.fresh();
        x.image();
        due("with one", x.back(), true);
    }

    private static void count() {
        of("Promise 48", "0 DISHES, 1 texts of THE LIFE, 2 LINES of THE LAW (NONE without one), 3 TODAY, 4 AT, 5 SORROW, 6 SPOONS, 7 EVENING, 8 REACH, 9 the first DAY of the WAR, 10 its last one, "
            + "11 SLIP, 12 HOUSE, 13 WAGE, 14 PAID, 15 rows of THE LOG, 16 acts that can be UNDONE.");
        BiteYears x = with("dish 11111 first 33 at 1;dish 22222;today 700;war 44 to 55;reach 22;slip 66;house 6;wage 9", "grief 8;pay 1;pay 2");
        x.crust();
        x.crust();
        x.spoon(0);
        x.spoon(0);
        x.spoon(0);
        dueRow("all", counts(x, 0, 1, 2, 3, 4, 5, 6, 7, 8, 9, 10, 11, 12, 13, 14, 15, 16), 2, 1, 3, 702, 33, 24, 3, 2, 22, 44, 55, 66, 6, 9, 36, 3, 5);
        due("lines without a law", new BiteYears().count(2), NONE);
        BiteYears y = new BiteYears();
        y.law();
        due("lines of an empty law", y.count(2), 0);
        due("twelve dishes", dishes(12).count(0), 12);
        for (int what = 0; what <= 16; what++) {
            int asked = what;
            unchanged("count(" + what + ")", z -> z.count(asked));
        }
    }

    private static void countOther() {
        of("Promise 48", "NONE for another what.");
        for (int what : new int[] {LEAST, -2, -1, 17, 18, 99, GREATEST}) {
            due("count(" + what + ")", full().count(what), NONE);
            unchanged("count(" + what + ")", x -> x.count(what));
        }
        due("count(0)", full().count(0), 6);
        due("count(16)", full().count(16), 10);
    }
}
