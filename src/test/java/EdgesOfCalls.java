/** Boundaries under the promises' own headings, promises 1 to 48. */
final class EdgesOfCalls extends Edges {
    static void run() {
        newObject();
        feed();
        feedFull();
        end();
        endRefused();
        life();
        lifeWrong();
        lifeTwelve();
        law();
        lawWrong();
        fault();
        faultNone();
        dish();
        dishOtherWhat();
        farNearLeft();
        spoon();
        spoonAtTheEnd();
        crust();
        had();
        hadNone();
        forget();
        forgetNew();
        reach();
        house();
        look();
        evenings();
        eveningsNone();
        menu();
        menuNone();
        menuOtherWhat();
        fewest();
        fewestNone();
        order();
        orderMore();
        he();
        heNone();
        unknown();
        unknownNone();
        serve();
        serveNone();
        jars();
        jarsNone();
        EdgesOfMoreCalls.run();
    }

    // ---- promises 1 to 6 ----

    private static void newObject() {
        of("Promise 1", "A life without DISHES.");
        BiteYears x = new BiteYears();
        dueRow("counts", counts(x, 0, 1, 2, 3, 4, 5, 6, 7, 8, 9, 10, 11, 12, 13, 14, 15, 16), 0, 0, NONE, 500, 500, 0, 0, 0, 5, 0, 0, 0, 0, 1, 0, 0, 0);
        due("the tape", tapeLength(x), 0);
        due("the fault", x.fault(), NONE);
        due("the seed", seedOf(x), 1);
        due("no act", x.undo(), false);
        due("no image", x.back(), false);
        refused("dish 0", INDEX, BiteYears::new, y -> y.dish(0, 0));
        refused("a spoon of dish 0", INDEX, BiteYears::new, y -> y.spoon(0));
        BiteYears other = new BiteYears();
        x.crust();
        Check.life(x, "dish 11111;wage 9");
        dueRow("another object is apart", counts(other, 0, 1, 3, 13), 0, 0, 500, 1);
    }

    private static void feed() {
        of("Promise 2", "Twenty bytes come behind the TAPE, of each number the highest first: how many it has;");
        BiteYears x = new BiteYears();
        due("from none", x.feed(1, 2, 3, 4, 5), 20);
        due("behind 20", x.feed(1, 2, 3, 4, 5), 40);
        x.end(1);
        due("behind 1", x.feed(1, 2, 3, 4, 5), 21);
        BiteYears text = new BiteYears();
        text.feed(0x77617220, 0x31323320, 0x746F2034, 0x35363B73, 0x6C697039);
        text.life();
        dueRow("war 123 to 456;slip9", counts(text, 9, 10, 11), 123, 456, 9);
        for (int at = 0; at < 20; at++) {
            for (int b : new int[] {1, 127, 128, 255}) {
                due("no " + b + " ahead of " + at, fedAt(at, b, at), at);
                due(b + " at " + at, fedAt(at, b, at + 1), ARGUMENT);
            }
            due("11 at " + at, elevenAt(at), 7);
        }
        for (int look : new int[] {0, 1, 127, 128, 129, 254, 255}) {
            int four = look << 24 | look << 16 | look << 8 | look;
            BiteYears y = dishes(1);
            y.had(0, look * 10, 0, NONE);
            y.feed(four, four, four, four, four);
            due("twenty looks of " + look, y.unknown(), 1);
            y.had(0, look * 10 + 10, 0, NONE);
            y.feed(four, four, four, four, four);
            due("twenty looks of 1 less than " + (look + 1), y.unknown(), 0);
        }
    }

    private static int[] oneByte(int at, int b) {
        int[] n = new int[5];
        n[at / 4] = b << 24 - at % 4 * 8;
        return n;
    }

    /** Zeros and one other byte: how many of the first bytes are served where there is dish 0 alone, or what is thrown. */
    private static Object fedAt(int at, int b, int length) {
        BiteYears x = dishes(1);
        int[] n = oneByte(at, b);
        x.feed(n[0], n[1], n[2], n[3], n[4]);
        x.end(length);
        try {
            return x.menu(2);
        } catch (IllegalArgumentException e) {
            return e.getClass();
        }
    }

    private static int elevenAt(int at) {
        BiteYears x = dishes(12);
        x.had(11, 7, 0, NONE);
        int[] n = oneByte(at, 11);
        x.feed(n[0], n[1], n[2], n[3], n[4]);
        x.end(at + 1);
        return x.menu(0);
    }

    private static BiteYears withTape(int length) {
        BiteYears x = new BiteYears();
        for (int i = 0; i < 20; i++) {
            x.feed(0x20202020, 0x20202020, 0x20202020, 0x20202020, 0x20202020);
        }
        x.end(length);
        return x;
    }

    private static void feedFull() {
        of("Promise 2", "NONE, and none come, if it would have more than 400.");
        BiteYears x = new BiteYears();
        for (int i = 1; i <= 20; i++) {
            due("feed " + i, x.feed(0, 0, 0, 0, 0), i * 20);
        }
        due("feed 21", x.feed(0, 0, 0, 0, 0), NONE);
        due("the tape has 400 still", x.end(400), true);
        due("behind 379", withTape(379).feed(0, 0, 0, 0, 0), 399);
        due("behind 380", withTape(380).feed(0, 0, 0, 0, 0), 400);
        due("behind 381", withTape(381).feed(0, 0, 0, 0, 0), NONE);
        due("behind 400", withTape(400).feed(0, 0, 0, 0, 0), NONE);
        for (int length : new int[] {381, 399, 400}) {
            unchanged("feed behind " + length, () -> withTape(length), y -> y.feed(-1, -1, -1, -1, -1));
            BiteYears y = withTape(length);
            y.feed(-1, -1, -1, -1, -1);
            due("none came behind " + length, tapeLength(y), length);
        }
        BiteYears last = withTape(380);
        last.feed(0x20202020, 0x20202020, 0x20202020, 0x20202020, 0x20202078);
        try {
            last.life();
        } catch (IllegalArgumentException e) {
            due("the 400th byte is an x", last.fault(), 399);
        }
        due("the tape is empty then", last.feed(0, 0, 0, 0, 0), 20);
    }

    private static void end() {
        of("Promise 3", "The TAPE has its first n bytes alone: true;");
        BiteYears x = taped(new BiteYears(), "slip 99;slip 5");
        due("all that there are", x.end(14), true);
        due("they stay", tapeLength(x), 14);
        due("some", x.end(7), true);
        due("the first ones", tapeLength(x), 7);
        x.life();
        due("the first ones were read", x.count(11), 99);
        due("none of none", x.end(0), true);
        due("it is empty", tapeLength(x), 0);
        Check.tape(x, "slip 5");
        due("one less", x.end(5), true);
        due("none", x.end(0), true);
        due("it is empty", tapeLength(x), 0);
        due("400 of 400", withTape(400).end(400), true);
        due("0 of 400", withTape(400).end(0), true);
        BiteYears y = taped(new BiteYears(), "slip 99");
        y.end(5);
        y.feed(0x38202020, 0x20202020, 0x20202020, 0x20202020, 0x20202020);
        y.life();
        due("what was cut off does not come again", y.count(11), 8);
        unchanged("end of all", z -> z.end(7));
    }

    private static void endRefused() {
        of("Promise 3", "false, and nothing happens, if it has fewer, or n is below 0.");
        due("1 of none", new BiteYears().end(1), false);
        due("-1 of none", new BiteYears().end(-1), false);
        due("401 of 400", withTape(400).end(401), false);
        for (int n : new int[] {LEAST, -1, 8, 400, 401, GREATEST}) {
            due("end(" + n + ") of 7", full().end(n), false);
            unchanged("end(" + n + ") of 7", x -> x.end(n));
        }
        due("7 of 7", full().end(7), true);
        due("0 of 7", full().end(0), true);
    }

    private static void life() {
        of("Promise 4", "Uses the TAPE up: a text of THE LIFE: how many there are.");
        BiteYears x = new BiteYears();
        for (int i = 1; i <= 12; i++) {
            due("text " + i, Check.life(x, "slip " + i), i);
            due("the tape behind it", tapeLength(x), 0);
            due("what it told", x.count(11), i);
        }
        due("an empty tape is a text", new BiteYears().life(), 1);
        due("a full tape is a text", withTape(400).life(), 1);
        BiteYears y = new BiteYears();
        y.image();
        Check.life(y, "");
        y.back();
        due("how many there are behind going back", Check.life(y, ""), 1);
    }

    private static void lifeWrong() {
        of("Promise 4", "IllegalArgumentException: it is wrong;");
        wrongLife(Edges::full, "slip 101", 5);
        wrongLife(Edges::full, ";", 0);
        wrongLife(Edges::full, "\0", 0);
        wrongLife(Edges::full, "slip 100 \0", 9);
        BiteYears x = full();
        due("a right one", Check.life(x, "slip 100"), 2);
    }

    private static BiteYears twelveTexts() {
        BiteYears x = full();
        for (int i = 2; i <= 12; i++) {
            Check.life(x, "");
        }
        x.crust();
        x.spoon(0);
        return x;
    }

    private static void lifeTwelve() {
        of("Promise 4", "UnsupportedOperationException: there are 12.");
        due("twelve texts", twelveTexts().count(1), 12);
        refusedTape("a right one", UNSUPPORTED, () -> taped(twelveTexts(), "dish 33333;today 3;wage 3"), BiteYears::life);
        refusedTape("an empty one", UNSUPPORTED, () -> taped(twelveTexts(), ""), BiteYears::life);
        wrongLife(EdgesOfCalls::twelveTexts, "slip 101", 5);
        BiteYears x = twelveTexts();
        due("a law is no text of the life", Check.law(x, "pay 1"), 1);
    }

    private static void law() {
        of("Promise 5", "Uses the TAPE up: THE LAW: how many LINES.");
        BiteYears x = new BiteYears();
        due("no line", x.law(), 0);
        due("lines of it", x.count(2), 0);
        for (int i = 1; i <= 12; i++) {
            due(i + " lines", Check.law(x, lines(i, "pay 1")), i);
            due("the tape behind them", tapeLength(x), 0);
            due("lines of them", x.count(2), i);
        }
        due("a full tape", withTape(400).law(), 0);
        for (int i = 0; i < 20; i++) {
            due("laws have no end", Check.law(x, "grief 1"), 1);
        }
    }

    private static void lawWrong() {
        of("Promise 5", "IllegalArgumentException: the text is wrong.");
        wrongLaw(Edges::full, "pay 61", 4);
        wrongLaw(Edges::full, ";", 0);
        wrongLaw(Edges::full, "\0", 0);
        wrongLaw(Edges::full, lines(13, "pay 1"), 72);
        due("a right one", Check.law(full(), "pay 60"), 1);
        due("twelve lines", Check.law(full(), lines(12, "pay 1")), 12);
    }

    private static void fault() {
        of("Promise 6", "The first wrong byte of the latest text that was read;");
        BiteYears x = new BiteYears();
        dueFault(x, "slip 101", false, 5);
        due("asked again", x.fault(), 5);
        dueFault(x, "pay 61", true, 4);
        dueFault(x, "x", false, 0);
        dueFault(x, "slip" + " ".repeat(396), false, 400);
        dueFault(x, " ".repeat(399) + "x", true, 399);
        x.crust();
        Check.tape(x, "wrong");
        due("a text that was not read yet", x.fault(), 399);
        x.end(0);
        due("an empty menu is no text", x.menu(0), 501);
        due("it stays", x.fault(), 399);
    }

    private static void dueFault(BiteYears x, String text, boolean law, int want) {
        Check.tape(x, text);
        boolean thrown = false;
        try {
            int answer = law ? x.law() : x.life();
            due("a wrong text's answer", answer, "none");
        } catch (IllegalArgumentException e) {
            thrown = true;
        }
        due("it is wrong: " + text, thrown, true);
        due("its first wrong byte", x.fault(), want);
    }

    private static void faultNone() {
        of("Promise 6", "NONE without one, and ahead of any.");
        BiteYears x = new BiteYears();
        due("ahead of any", x.fault(), NONE);
        dueFault(x, "slip 101", false, 5);
        Check.life(x, "slip 100");
        due("behind a right life", x.fault(), NONE);
        dueFault(x, "x", false, 0);
        Check.law(x, "");
        due("behind a right law", x.fault(), NONE);
        dueFault(x, "x", true, 0);
        Check.life(x, "");
        due("behind an empty life", x.fault(), NONE);
        BiteYears y = new BiteYears();
        y.crust();
        due("behind other calls", y.fault(), NONE);
        unchanged("fault", BiteYears::fault);
    }

    // ---- promises 7 to 10 ----

    private static void dish() {
        of("Promise 7", "Of a DISH what 0 to 4 its TASTES, 5 FIRST, 6 PLACE, 7 COMPANY (NONE: nobody; 5 to 7 NONE, if it is NEW), 8 what it CALLS up (NONE), 9 what it TURNS by now, 10 what it PAYS now.");
        BiteYears x = with("dish 98765 first 0 at 0 with 0;dish 01234;dish 98764;dish 55555 first 999 at 7;reach 1;wage 6", "grief 5 if new;joy 4 if not new;pay 3 if alone");
        int[][] want = {{9, 8, 7, 6, 5, 0, 0, 0, 0, -4, 6}, {0, 1, 2, 3, 4, NONE, NONE, NONE, NONE, 5, 6}, {9, 8, 7, 6, 4, NONE, NONE, NONE, 0, 5, 6}, {5, 5, 5, 5, 5, 999, 7, NONE, 3, -4, 9}};
        for (int dish = 0; dish < 4; dish++) {
            for (int what = 0; what <= 10; what++) {
                due("dish(" + dish + ", " + what + ")", x.dish(dish, what), want[dish][what]);
            }
        }
        x.had(1, 9999, 7, 7);
        dueRow("told as had", firstOf(x, 1), 9999, 7, 7);
        x.forget(0);
        dueRow("told as new", firstOf(x, 0), NONE, NONE, NONE);
        BiteYears now = with("dish 11111", "grief 1 if spoons > 0;pay 1 if sorrow > 0");
        now.spoon(0);
        due("what it turns by now", now.dish(0, 9), 1);
        now.spoon(0);
        due("what it pays now", now.dish(0, 10), 2);
        due("what it turns by with sorrow 99", saddest().dish(0, 9), 60);
        for (int what = 0; what <= 10; what++) {
            int asked = what;
            unchanged("dish(3, " + what + ")", y -> y.dish(3, asked));
        }
        for (int none : new int[] {LEAST, -1, 6, GREATEST}) {
            refused("dish(" + none + ", 10)", INDEX, y -> y.dish(none, 10));
        }
    }

    private static void dishOtherWhat() {
        of("Promise 7", "NoSuchElementException: another what.");
        for (int what : new int[] {LEAST, -1, 11, GREATEST}) {
            refused("dish(0, " + what + ")", ELEMENT, x -> x.dish(0, what));
            refused("dish(5, " + what + ")", ELEMENT, x -> x.dish(5, what));
        }
        due("what 0", full().dish(5, 0), 9);
        due("what 10", full().dish(5, 10), 6);
    }

    private static void farNearLeft() {
        of("Promise 8", "FAR.");
        BiteYears x = dishes(12);
        due("0 and 9", x.far(0, 9), 45);
        due("the last two", x.far(10, 11), 5);
        due("the last one and itself", x.far(11, 11), 0);
        for (int none : new int[] {LEAST, -1, 12, GREATEST}) {
            refused("far(" + none + ", 0)", INDEX, () -> dishes(12), y -> y.far(none, 0));
            refused("far(0, " + none + ")", INDEX, () -> dishes(12), y -> y.far(0, none));
            refused("far(" + none + ", " + none + ")", INDEX, () -> dishes(12), y -> y.far(none, none));
        }
        unchanged("far", y -> y.far(0, 5));
        of("Promise 9", "NEAR, as bits.");
        due("0 of twelve: 00001 and 11111", x.near(0), 1024 | 2);
        due("the last of twelve, 11112: 11111, 22222 and 00001", x.near(11), 2 | 4 | 1024);
        for (int none : new int[] {LEAST, -1, 12, GREATEST}) {
            refused("near(" + none + ")", INDEX, () -> dishes(12), y -> y.near(none));
        }
        refused("near(0) of none", INDEX, BiteYears::new, y -> y.near(0));
        unchanged("near", y -> y.near(3));
        of("Promise 10", "LEFT, as bits.");
        due("all of twelve", x.left(), 4095);
        x.spoon(11);
        due("but for the last one", x.left(), 2047);
        due("of none", new BiteYears().left(), 0);
        unchanged("left", BiteYears::left);
    }

    // ---- promises 11 to 18 ----

    private static void spoon() {
        of("Promise 11", "A SPOON: AT then.");
        BiteYears x = with("dish 11111 first 0 at 1;dish 11112;dish 99999;reach 1;today 999");
        due("of the first one", x.spoon(0), 0);
        due("of the last one", x.spoon(2), 999);
        due("of a new one", x.spoon(1), 0);
        due("of what was new", x.spoon(1), 999);
        dueRow("at, spoons, rows and acts", counts(x, 4, 6, 15, 16), 999, 4, 4, 4);
        for (int none : new int[] {LEAST, -1, 6, 12, GREATEST}) {
            refused("spoon(" + none + ")", INDEX, y -> y.spoon(none));
        }
        refused("spoon(0) of none", INDEX, BiteYears::new, y -> y.spoon(0));
    }

    private static void spoonAtTheEnd() {
        of("Promise 11", "IllegalStateException: SORROW is 99.");
        refused("of a had one", STATE, Edges::saddest, x -> x.spoon(0));
        refused("of a new one", STATE, Edges::saddest, x -> x.spoon(1));
        refused("of the last one", STATE, Edges::saddest, x -> x.spoon(5));
        refused("of none", INDEX, Edges::saddest, x -> x.spoon(6));
        BiteYears x = withSorrow(98, "dish 11111 first 1 at 1", "grief 1");
        due("with sorrow 98", x.spoon(0), 1);
        due("sorrow then", x.count(5), 99);
        BiteYears y = saddest();
        y.crust();
        due("behind the crust", y.spoon(0), 120);
    }

    private static void crust() {
        of("Promise 12", "THE CRUST: TODAY then.");
        due("at first", new BiteYears().crust(), 501);
        due("from day 0", with("today 0").crust(), 1);
        BiteYears x = with("today 999");
        due("from the last day that is told", x.crust(), 1000);
        for (int i = 0; i < 149; i++) {
            x.evenings(60);
        }
        x.evenings(58);
        due("to the last day but one", x.count(3), 9998);
        due("to the last day", x.crust(), 9999);
        due("behind it", x.crust(), 9999);
        due("with sorrow 99", saddest().crust(), saddest().count(3) + 1);
    }

    private static void had() {
        of("Promise 13", "Told as HAD: FIRST that it had; NONE.");
        BiteYears x = dishes(12);
        due("a new one", x.had(11, 9999, 7, 7), NONE);
        due("had on the last day", x.had(11, 0, 0, NONE), 9999);
        due("had on day 0", x.had(11, 5, 1, 0), 0);
        dueRow("as told", firstOf(x, 11), 5, 1, 0);
        due("one that was forgotten", x.forget(11), 5);
        due("is new", x.had(11, 5, 1, 0), NONE);
        due("the first one", x.had(0, 1, 1, 1), NONE);
        dueRow("at and spoons stay", counts(x, 3, 4, 6, 15), 500, 500, 0, 0);
    }

    private static void hadNone() {
        of("Promise 13", "IllegalArgumentException: the DAY (0 to 9999), or COMPANY (0 to 7, or NONE) is none.");
        for (int day : new int[] {LEAST, -2, -1, 10000, GREATEST}) {
            refused("day " + day, ARGUMENT, x -> x.had(0, day, 0, 0));
        }
        for (int company : new int[] {LEAST, -2, 8, 9, GREATEST}) {
            refused("company " + company, ARGUMENT, x -> x.had(0, 0, 0, company));
        }
        refused("neither", ARGUMENT, x -> x.had(0, -1, 0, 8));
        for (int place : new int[] {LEAST, -1, 8, GREATEST}) {
            refused("place " + place, INDEX, x -> x.had(0, 0, place, 0));
        }
        for (int dish : new int[] {LEAST, -1, 6, GREATEST}) {
            refused("dish " + dish, INDEX, x -> x.had(dish, 0, 0, 0));
        }
        int[][] right = {{0, 0, 0}, {9999, 7, 7}, {0, 7, NONE}, {9999, 0, 0}};
        for (int[] one : right) {
            BiteYears x = full();
            x.had(0, one[0], one[1], one[2]);
            dueRow("what is taken", firstOf(x, 0), one);
        }
    }

    private static void forget() {
        of("Promise 14", "Told as NEW: FIRST that it had.");
        BiteYears x = with("dish 11111 first 0 at 1 with 2;dish 22222 first 999 at 1;dish 33333");
        due("had on day 0", x.forget(0), 0);
        dueRow("as new", firstOf(x, 0), NONE, NONE, NONE);
        due("had on day 999", x.forget(1), 999);
        x.had(2, 9999, 0, NONE);
        due("had on the last day", x.forget(2), 9999);
        due("all are left", x.left(), 7);
        x.spoon(0);
        due("had today", x.forget(0), 500);
        for (int none : new int[] {LEAST, -1, 6, GREATEST}) {
            refused("forget(" + none + ")", INDEX, y -> y.forget(none));
        }
    }

    private static void forgetNew() {
        of("Promise 14", "IllegalStateException: it is NEW.");
        refused("a new one", STATE, x -> x.forget(1));
        refused("the last of twelve", STATE, () -> dishes(12), x -> x.forget(11));
        BiteYears x = full();
        x.had(1, 0, 0, NONE);
        due("told as had on day 0", x.forget(1), 0);
        refused("forgotten already", STATE, () -> {
            BiteYears y = full();
            y.forget(0);
            return y;
        }, y -> y.forget(0));
    }

    private static void reach() {
        of("Promise 15", "REACH is told: what it was.");
        BiteYears x = dishes(12);
        due("at first", x.reach(45), 5);
        due("45", x.reach(0), 45);
        due("0", x.reach(44), 0);
        due("44", x.count(8), 44);
        of("Promise 15", "IllegalArgumentException: it is none.");
        for (int none : new int[] {LEAST, -1, 46, 999, GREATEST}) {
            refused("reach(" + none + ")", ARGUMENT, y -> y.reach(none));
        }
        due("0 is one", full().reach(0), 9);
        due("45 is one", full().reach(45), 9);
    }

    private static void house() {
        of("Promise 16", "HOUSE is told: what it was.");
        BiteYears x = dishes(1);
        for (int place = 0; place < 8; place++) {
            due("house(" + place + ")", x.house(place), Math.max(0, place - 1));
        }
        due("7", x.count(12), 7);
        for (int none : new int[] {LEAST, -1, 8, GREATEST}) {
            refused("house(" + none + ")", INDEX, y -> y.house(none));
        }
        due("at stays", x.count(4), 500);
    }

    private static void look() {
        of("Promise 17", "A LOOK.");
        BiteYears x = with("today 0;slip 1");
        x.seed(seedThatDraws(1));
        due("the first decade", x.look(), 0);
        x.seed(seedThatDraws(0));
        due("with a slip", x.look(), 1);
        BiteYears y = with("dish 11111;slip 100");
        y.had(0, 9999, 0, NONE);
        y.spoon(0);
        due("the last decade with a slip", y.look(), 1000);
        dueRow("she stays where she is", counts(y, 3, 4, 5, 6, 7), 500, 9999, 0, 1, 0);
        due("without dishes", new BiteYears().look(), 50);
    }

    private static void evenings() {
        of("Promise 18", "So many EVENINGS more (1 to 60): how many SPOONS she took in these.");
        for (int n : new int[] {1, 2, 59, 60}) {
            BiteYears x = dishes(3);
            BiteYears y = dishes(3);
            int taken = 0;
            for (int i = 0; i < n; i++) {
                taken += y.evenings(1);
            }
            due(n + " evenings", x.evenings(n), taken);
            dueRow("today, evening, spoons, paid", counts(x, 3, 7, 6, 14), 500 + n, n, 0, taken);
            due("seed as one by one", seedOf(x), seedOf(y));
        }
        BiteYears x = with("dish 11111");
        x.spoon(0);
        x.seed(seedThatDraws(0));
        due("spoons of this evening are not counted", x.evenings(1), 1);
        due("without dishes", new BiteYears().evenings(60), 0);
    }

    private static void eveningsNone() {
        of("Promise 18", "IllegalArgumentException: they are none.");
        for (int none : new int[] {LEAST, -1, 0, 61, GREATEST}) {
            refused("evenings(" + none + ")", ARGUMENT, x -> x.evenings(none));
        }
        due("1 is one", full().evenings(1) > 0, true);
        due("60 are some", full().evenings(60) > 0, true);
    }

    // ---- promises 19 to 25 ----

    private static void menu() {
        of("Promise 19", "Uses the TAPE up: MENU (a byte for each DISH; at most 40) what 0 AT, 1 SORROW, 2 how many SPOONS, 3 PAID in it.");
        BiteYears x = with("dish 11111 first 10 at 1;dish 22222 first 20 at 1;wage 3", "grief 2;pay 1");
        x.spoon(1);
        int[] want = {10, 6, 2, 8};
        for (int what = 0; what < 4; what++) {
            due("what " + what, taped(x, bytes(1, 0)).menu(what), want[what]);
            due("the tape", tapeLength(x), 0);
        }
        due("39", taped(x, "\0".repeat(39)).menu(2), 39);
        due("40", taped(x, "\0".repeat(40)).menu(2), 40);
        due("40 of the last one", taped(x, "\1".repeat(40)).menu(0), 20);
        due("what all pay", taped(x, "\1".repeat(40)).menu(3), 160);
        due("the sorrow of 40", taped(x, "\1".repeat(40)).menu(1), 82);
        BiteYears twelve = dishes(12);
        due("the last of twelve", taped(twelve, bytes(11)).menu(2), 1);
    }

    private static void menuNone() {
        of("Promise 19", "IllegalArgumentException: the TAPE is not that (none may be told);");
        for (int what = 0; what < 4; what++) {
            int asked = what;
            refusedTape("41 bytes", ARGUMENT, "\0".repeat(41), x -> x.menu(asked));
            refusedTape("400 bytes", ARGUMENT, "\0".repeat(400), x -> x.menu(asked));
            refusedTape("dish 6 of six", ARGUMENT, bytes(6), x -> x.menu(asked));
            refusedTape("dish 6 at the end of forty", ARGUMENT, "\0".repeat(39) + bytes(6), x -> x.menu(asked));
            refusedTape("dish 255", ARGUMENT, bytes(255), x -> x.menu(asked));
            refusedTape("dish 128", ARGUMENT, bytes(0, 128), x -> x.menu(asked));
        }
        refusedTape("a dish of none", ARGUMENT, () -> taped(new BiteYears(), bytes(0)), x -> x.menu(0));
        refusedTape("dish 12 of twelve", ARGUMENT, () -> taped(dishes(12), bytes(12)), x -> x.menu(0));
        // Behind the one at which sorrow is 99 there must be dishes, too.
        refusedTape("no dish behind 99", ARGUMENT, () -> taped(saddest(), bytes(0, 6)), x -> x.menu(0));
        due("none", taped(full(), "").menu(2), 0);
        due("none of none", taped(new BiteYears(), "").menu(0), 500);
        due("dish 5 of six", taped(full(), bytes(5)).menu(2), 1);
    }

    private static void menuOtherWhat() {
        of("Promise 19", "NoSuchElementException: another what.");
        for (int what : new int[] {LEAST, -1, 4, GREATEST}) {
            refusedTape("menu(" + what + ")", ELEMENT, bytes(0), x -> x.menu(what));
            refusedTape("menu(" + what + ") of none", ELEMENT, "", x -> x.menu(what));
            refusedTape("menu(" + what + ") of 41", ARGUMENT, "\0".repeat(41), x -> x.menu(what));
        }
        due("what 0", taped(full(), "").menu(0), full().count(4));
        due("what 3", taped(full(), "").menu(3), 0);
    }

    private static void fewest() {
        of("Promise 20", "FEWEST, as bits; NONE.");
        BiteYears x = with("dish 11111 first 0 at 1;dish 11111 first 999 at 1;dish 11111 first 99 at 1;dish 11111");
        due("bit 0", x.fewest(1, 0), 1);
        due("bit 9", x.fewest(512, 0), 2);
        due("both", x.fewest(513, 510), 3);
        due("none", x.fewest(2, 0), NONE);
        due("both of one", x.fewest(1, 1), NONE);
        due("empty", x.fewest(0, 1023), 0);
        unchanged("fewest", y -> y.fewest(1, 2));
    }

    private static void fewestNone() {
        of("Promise 20", "IllegalArgumentException: AGES are none (0 to 1023).");
        for (int none : new int[] {LEAST, -1, 1024, GREATEST}) {
            refused("fewest(" + none + ", 0)", ARGUMENT, x -> x.fewest(none, 0));
            refused("fewest(0, " + none + ")", ARGUMENT, x -> x.fewest(0, none));
            refused("fewest(1023, " + none + ")", ARGUMENT, x -> x.fewest(1023, none));
        }
        due("0 and 1023", full().fewest(0, 1023), 0);
        due("1023 and 0", full().fewest(1023, 0), NONE);
    }

    private static void order() {
        of("Promise 21", "ORDER: how great (k NONE), or the k-th; NONE.");
        BiteYears x = with("dish 11111 first 1 at 1;dish 11111 first 1 at 1;dish 11111 first 1 at 1", "grief 9 if dish < 1;joy 4 if dish > 0");
        due("how great", x.order(7, NONE), 9);
        due("k 0", x.order(7, 0), 0);
        due("k 2", x.order(7, 2), 2);
        due("k 3", x.order(7, 3), NONE);
        due("k -2", x.order(7, -2), NONE);
        due("k of the greatest", x.order(7, GREATEST), NONE);
        due("k of the least", x.order(7, LEAST), NONE);
        due("how great, of none", x.order(0, NONE), 0);
        due("k 0 of none", x.order(0, 0), NONE);
        due("how great, of one", x.order(1, NONE), 9);
        due("a smaller set behind a greater one", x.order(2, 1), NONE);
        unchanged("order", y -> y.order(63, 5));
    }

    private static void orderMore() {
        of("Promise 21", "IllegalArgumentException: they are more than 6.");
        for (int k : new int[] {NONE, 0, 9}) {
            refused("seven, k " + k, ARGUMENT, () -> dishes(12), x -> x.order(127, k));
            refused("twelve, k " + k, ARGUMENT, () -> dishes(12), x -> x.order(-1, k));
            refused("seven of seven, k " + k, ARGUMENT, () -> dishes(7), x -> x.order(GREATEST, k));
        }
        due("six of seven", dishes(7).order(126, 5), 6);
        due("six of six by all bits", dishes(6).order(-1, 5), 5);
    }

    private static void he() {
        of("Promise 22", "Uses the TAPE up: HE (of each two bytes: AGE 0 to 99, PLACE; at most 40 bytes), as bits (all without any).");
        BiteYears x = with("dish 11111 first 0 at 0 with 0;dish 11111;dish 11111 first 0 at 0 with 7");
        x.had(1, 9999, 7, 7);
        due("without any", taped(x, "").he(), 255);
        due("without any nor dishes", new BiteYears().he(), 255);
        due("age 0, place 0", taped(x, bytes(0, 0)).he(), 129);
        due("age 99, place 7", taped(x, bytes(99, 7)).he(), 128);
        due("both", taped(x, bytes(0, 0, 99, 7)).he(), 128);
        due("40 bytes", taped(x, "\0".repeat(40)).he(), 129);
        due("38 bytes", taped(x, "\0".repeat(38)).he(), 129);
        due("the last of 20 pairs counts", taped(x, "\0".repeat(38) + bytes(99, 7)).he(), 128);
        due("the tape", tapeLength(x), 0);
        unchangedButTape("he", bytes(0, 0), BiteYears::he);
    }

    private static void heNone() {
        of("Promise 22", "IllegalArgumentException: the TAPE is not that.");
        refusedTape("age 100", ARGUMENT, bytes(100, 0), BiteYears::he);
        refusedTape("age 255", ARGUMENT, bytes(255, 0), BiteYears::he);
        refusedTape("place 8", ARGUMENT, bytes(0, 8), BiteYears::he);
        refusedTape("place 255", ARGUMENT, bytes(0, 255), BiteYears::he);
        refusedTape("age 100 in the last pair", ARGUMENT, "\0".repeat(38) + bytes(100, 7), BiteYears::he);
        refusedTape("place 8 in the last pair", ARGUMENT, "\0".repeat(38) + bytes(99, 8), BiteYears::he);
        refusedTape("one byte", ARGUMENT, bytes(0), BiteYears::he);
        refusedTape("39 bytes", ARGUMENT, "\0".repeat(39), BiteYears::he);
        refusedTape("41 bytes", ARGUMENT, "\0".repeat(41), BiteYears::he);
        refusedTape("42 bytes", ARGUMENT, "\0".repeat(42), BiteYears::he);
        refusedTape("400 bytes", ARGUMENT, "\0".repeat(400), BiteYears::he);
        due("age 99 and place 7", taped(full(), bytes(99, 7)).he(), 0);
    }

    private static void unknown() {
        of("Promise 23", "Uses the TAPE up: UNKNOWN (a byte for each LOOK; at most 20), as bits.");
        BiteYears x = with("dish 11111 first 9 at 0;dish 11111 first 10 at 0;dish 11111");
        x.had(2, 2559, 0, NONE);
        due("byte 0", taped(x, bytes(0)).unknown(), 1);
        due("byte 255", taped(x, bytes(255)).unknown(), 4);
        due("19", taped(x, "\1".repeat(19)).unknown(), 3);
        due("20", taped(x, "\1".repeat(20)).unknown(), 3);
        due("the last of 20 counts", taped(x, "\1".repeat(19) + bytes(2)).unknown(), 2);
        due("the tape", tapeLength(x), 0);
        unchangedButTape("unknown", bytes(12), BiteYears::unknown);
    }

    private static void unknownNone() {
        of("Promise 23", "IllegalArgumentException: the TAPE is not that (none may be told).");
        refusedTape("21", ARGUMENT, "\14".repeat(21), BiteYears::unknown);
        refusedTape("400", ARGUMENT, "\14".repeat(400), BiteYears::unknown);
        due("20", taped(full(), "\14".repeat(20)).unknown(), 1 | 32);
        due("none", taped(full(), "").unknown(), full().left() ^ 63);
        due("none of none", new BiteYears().unknown(), 0);
    }

    private static void serve() {
        of("Promise 24", "Uses the TAPE up: SERVE (the TAPE likewise); NONE.");
        BiteYears x = with("dish 11111 first 125 at 0;dish 11111 first 121 at 0;dish 11111 first 500 at 0");
        due("two that fit", taped(x, bytes(12)).serve(), 1);
        due("one that fits", taped(x, bytes(50)).serve(), NONE);
        due("none that fits", taped(x, bytes(255)).serve(), NONE);
        due("20 looks", taped(x, "\14".repeat(20)).serve(), 1);
        due("the last of 20 counts", taped(x, "\14".repeat(19) + bytes(50)).serve(), NONE);
        due("no look", taped(x, "").serve(), 0);
        due("the tape", tapeLength(x), 0);
        due("no look, no dishes", new BiteYears().serve(), NONE);
        unchangedButTape("serve", bytes(12), BiteYears::serve);
    }

    private static void serveNone() {
        of("Promise 24", "IllegalArgumentException: the TAPE is not that.");
        refusedTape("21", ARGUMENT, "\14".repeat(21), BiteYears::serve);
        refusedTape("400", ARGUMENT, "\14".repeat(400), BiteYears::serve);
        refusedTape("21 of none", ARGUMENT, () -> taped(new BiteYears(), "\0".repeat(21)), BiteYears::serve);
        due("20", taped(full(), "\14".repeat(20)).serve() >= 0, true);
    }

    private static void jars() {
        of("Promise 25", "Uses the TAPE up: JARS (five bytes 0 to 9 of each): how much (k NONE), or which DISH the k-th one is; NONE.");
        BiteYears x = with("dish 00000;dish 99999;dish 90909");
        String two = bytes(9, 9, 9, 9, 9, 0, 0, 0, 0, 1);
        due("how much", taped(x, two).jars(NONE), 1);
        due("k 0", taped(x, two).jars(0), 1);
        due("k 1", taped(x, two).jars(1), 0);
        due("the tape", tapeLength(x), 0);
        for (int k : new int[] {LEAST, -2, 2, 5, GREATEST}) {
            due("k " + k, taped(x, two).jars(k), NONE);
        }
        due("three jars of three", taped(x, two + bytes(0, 0, 0, 0, 0)).jars(NONE), 26);
        due("four jars of three", taped(x, two + two).jars(NONE), NONE);
        due("k 0, four jars of three", taped(x, two + two).jars(0), NONE);
        due("a smaller row behind a greater one", taped(x, bytes(0, 0, 0, 0, 0)).jars(1), NONE);
        unchangedButTape("jars", two, y -> y.jars(NONE));
    }

    private static void jarsNone() {
        of("Promise 25", "IllegalArgumentException: the TAPE is not that.");
        for (int length : new int[] {1, 4, 6, 9, 11, 24, 26, 30, 400}) {
            refusedTape(length + " bytes", ARGUMENT, "\0".repeat(length), x -> x.jars(NONE));
        }
        for (int at = 0; at < 25; at++) {
            refusedTape("10 at " + at, ARGUMENT, "\0".repeat(at) + bytes(10) + "\0".repeat(24 - at), x -> x.jars(0));
        }
        refusedTape("255", ARGUMENT, bytes(0, 0, 0, 0, 255), x -> x.jars(9));
        refusedTape("10, more jars than dishes", ARGUMENT, () -> taped(new BiteYears(), bytes(0, 0, 0, 0, 10)), x -> x.jars(NONE));
        due("5 bytes", taped(full(), "\0".repeat(5)).jars(NONE), 0);
        due("25 bytes of 9", taped(full(), "\11".repeat(25)).jars(0) >= 0, true);
    }
}
