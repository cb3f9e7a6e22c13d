/** Boundaries in how texts are read: the life, the law, and the first wrong byte. */
final class EdgesOfTexts extends Edges {
    /** Had in the war with 3; new and calling it up; new and calling up nothing; had with nobody. */
    private static final String SERVED = "dish 12345 first 240 at 1 with 3;dish 12344;dish 99999;dish 50005 first 100 at 2;war 240 to 310;today 250;house 5;reach 1";

    static void run() {
        texts();
        linesOfLife();
        dishLine();
        otherLines();
        figures();
        days();
        places();
        company();
        warInRow();
        todayIsAt();
        numbersOfLife();
        law();
        linesOfLaw();
        lawLine();
        orAndAnd();
        atoms();
        sums();
        numbersOfLaw();
        ofTheDish();
        ofWhatItCallsUp();
        turns();
        pays();
        words();
        blanks();
        empty();
        deep();
        firstWrong();
        moreDigits();
        outOfBounds();
        otherFigures();
        wordThatIsNone();
        seventhDeep();
        tooMany();
        moreMustCome();
        nothingStays();
    }

    // ---- the life ----

    private static BiteYears withTexts(int many) {
        BiteYears x = new BiteYears();
        for (int i = 1; i <= many; i++) {
            Check.life(x, "slip " + i);
        }
        return x;
    }

    private static void texts() {
        term("THE LIFE is told in texts (at most 12, one behind another):", 4);
        due("no text", new BiteYears().count(1), 0);
        BiteYears x = withTexts(11);
        due("eleven texts", x.count(1), 11);
        due("the twelfth", Check.life(x, "dish 11111;dish 22222"), 12);
        due("its dishes", x.count(0), 2);
        refusedTape("a thirteenth", UNSUPPORTED, () -> taped(withTexts(12), "slip 50"), BiteYears::life);
        refusedTape("an empty thirteenth", UNSUPPORTED, () -> taped(withTexts(12), ""), BiteYears::life);
        BiteYears y = with("dish 11111 first 7 at 1;slip 5;wage 6");
        due("a second text", Check.life(y, "dish 22222;wage 7"), 2);
        due("it comes behind the first one", y.dish(0, 5) * 100 + y.dish(1, 0) * 10 + y.count(0), 722);
        dueRow("what it does not tell stays", counts(y, 11, 13), 5, 7);
    }

    private static void linesOfLife() {
        term("LINE { ; LINE }, at most 14:", 4);
        due("one line", with("slip 1").count(11), 1);
        due("two lines", with("slip 1;slip 2").count(11), 2);
        due("14 lines", with(lines(13, "slip 1") + ";slip 14").count(11), 14);
        wrongLife(lines(14, "slip 1") + ";slip 15", 98);
        wrongLife("slip 1 slip 2", 7);
        wrongLife("slip 1,slip 2", 6);
        wrongLife("slip 1;;slip 2", 7);
        wrongLife(";slip 1", 0);
    }

    private static void dishLine() {
        term("dish F [ first N at N [ with N ] ] |", 4);
        dueRow("dish F", firstOf(with("dish 12345"), 0), NONE, NONE, NONE);
        dueRow("first and at", firstOf(with("dish 12345 first 7 at 1"), 0), 7, 1, NONE);
        dueRow("first, at and with", firstOf(with("dish 12345 first 7 at 1 with 2"), 0), 7, 1, 2);
        wrongLife("dish", 4);
        wrongLife("dish first 7 at 1", 5);
        wrongLife("dish 12345 at 1", 11);
        wrongLife("dish 12345 with 2", 11);
        wrongLife("dish 12345 first 7", 18);
        wrongLife("dish 12345 first 7 with 2", 19);
        wrongLife("dish 12345 first at 1", 17);
        wrongLife("dish 12345 first 7 at with 2", 22);
        wrongLife("dish 12345 first 7 at 1 with", 28);
        wrongLife("dish 12345 first 7 at 1 with 2 with 3", 31);
        wrongLife("dish 12345 first 7 at 1 first 7 at 1", 24);
        wrongLife("dish 12345 first 7 at 1;with 2", 24);
    }

    private static void otherLines() {
        term("today N | war N to N | reach N | slip N | house N | wage N.", 4);
        BiteYears x = with("today 1;war 2 to 3;reach 4;slip 5;house 6;wage 7");
        dueRow("all of them", counts(x, 3, 9, 10, 8, 11, 12, 13), 1, 2, 3, 4, 5, 6, 7);
        String[] words = {"today", "reach", "slip", "house", "wage"};
        for (String word : words) {
            int length = word.length();
            wrongLife(word, length);
            wrongLife(word + " x", length + 1);
            wrongLife(word + " 1 1", length + 3);
            wrongLife(word + " 1 to 1", length + 3);
        }
        wrongLife("war", 3);
        wrongLife("war 1", 5);
        wrongLife("war 1 2", 6);
        wrongLife("war 1 to", 8);
        wrongLife("war to 1", 4);
        wrongLife("war 1 to 2 to 3", 11);
    }

    private static void figures() {
        term("F: five figures;", 4);
        due("five", with("dish 00000").count(0), 1);
        wrongLife("dish 0000", 5);
        wrongLife("dish 000000", 5);
        wrongLife("dish 0000 0", 5);
        wrongLife("dish 00000 0", 11);
        wrongLife("dish 0", 5);
        wrongLife("dish 0000000000", 5);
    }

    private static void days() {
        term("first, today, war: 0 to 999;", 4);
        due("first 0", with("dish 11111 first 0 at 1").dish(0, 5), 0);
        due("first 999", with("dish 11111 first 999 at 1").dish(0, 5), 999);
        wrongLife("dish 11111 first 1000 at 1", 17);
        due("today 0", with("today 0").count(3), 0);
        due("today 999", with("today 999").count(3), 999);
        wrongLife("today 1000", 6);
        dueRow("war 0 to 0", counts(with("war 5 to 6;war 0 to 0"), 9, 10), 0, 0);
        dueRow("war 999 to 999", counts(with("war 999 to 999"), 9, 10), 999, 999);
        dueRow("war 0 to 999", counts(with("war 0 to 999"), 9, 10), 0, 999);
        wrongLife("war 1000 to 1001", 4);
        wrongLife("war 999 to 1000", 11);
        wrongLife("today -1", 6);
    }

    private static void places() {
        term("at, house: a PLACE;", 4);
        due("at 0", with("dish 11111 first 1 at 0").dish(0, 6), 0);
        due("at 7", with("dish 11111 first 1 at 7").dish(0, 6), 7);
        wrongLife("dish 11111 first 1 at 8", 22);
        wrongLife("dish 11111 first 1 at 999", 22);
        due("house 0", with("house 1;house 0").count(12), 0);
        due("house 7", with("house 7").count(12), 7);
        wrongLife("house 8", 6);
        wrongLife("house 999", 6);
    }

    private static void company() {
        term("with: COMPANY;", 4);
        due("with 0", with("dish 11111 first 1 at 1 with 0").dish(0, 7), 0);
        due("with 7", with("dish 11111 first 1 at 1 with 7").dish(0, 7), 7);
        wrongLife("dish 11111 first 1 at 1 with 8", 29);
        wrongLife("dish 11111 first 1 at 1 with 999", 29);
        due("with nobody", with("dish 11111 first 1 at 1").dish(0, 7), NONE);
    }

    private static void warInRow() {
        term("war: the second not below the first.", 4);
        dueRow("the second above the first", counts(with("war 5 to 6"), 9, 10), 5, 6);
        dueRow("the second as the first", counts(with("war 5 to 5"), 9, 10), 5, 5);
        wrongLife("war 5 to 4", 9);
        wrongLife("war 999 to 998", 11);
        wrongLife("war 1 to 0", 9);
    }

    private static void todayIsAt() {
        term("By today she is AT it, too.", 4);
        BiteYears x = with("dish 11111 first 7 at 1");
        x.spoon(0);
        Check.life(x, "wage 1");
        dueRow("ahead of it, and behind another line", counts(x, 3, 4), 500, 7);
        Check.life(x, "today 0");
        dueRow("behind today 0", counts(x, 3, 4), 0, 0);
        Check.life(x, "today 8;today 999");
        dueRow("behind two of them", counts(x, 3, 4), 999, 999);
        wrongLife(() -> with("today 44"), "today 45;today 1000", 15);
    }

    private static void numbersOfLife() {
        term("Numbers are of 1 to 3 digits.", 4);
        due("1 digit", with("today 7").count(3), 7);
        due("2 digits", with("today 07").count(3), 7);
        due("3 digits", with("today 007").count(3), 7);
        wrongLife("today 0007", 6);
        wrongLife("today", 5);
        wrongLife("today ", 6);
        wrongLife("dish 11111 first 0007 at 1", 17);
        wrongLife("dish 11111 first 7 at 0001", 22);
        wrongLife("dish 11111 first 7 at 1 with 0001", 29);
        wrongLife("war 0001 to 2", 4);
        wrongLife("war 1 to 0002", 9);
        wrongLife("reach 0001", 6);
        wrongLife("slip 0001", 5);
        wrongLife("house 0001", 6);
        wrongLife("wage 0001", 5);
        BiteYears x = with("dish 11111 first 007 at 001 with 002;war 003 to 004;reach 005;slip 006;house 007;wage 008");
        dueRow("of 3 digits everywhere", counts(x, 9, 10, 8, 11, 12, 13), 3, 4, 5, 6, 7, 8);
        dueRow("a dish of 3 digits everywhere", firstOf(x, 0), 7, 1, 2);
        wrongLife("today 99999999999", 6);
    }

    // ---- the law ----

    private static int turnsBy(String law, int dish) {
        return with(SERVED, law).dish(dish, 9);
    }

    /** What dishes 0 to 3 turn by. */
    private static void dueTurns(String law, int... want) {
        BiteYears x = with(SERVED, law);
        dueRow(law, new int[] {x.dish(0, 9), x.dish(1, 9), x.dish(2, 9), x.dish(3, 9)}, want);
    }

    private static void law() {
        term("THE LAW (a text, in place of the one before):", 5);
        BiteYears x = with("dish 11111");
        due("no law", x.count(2), NONE);
        dueRow("turns and pays without one", new int[] {x.dish(0, 9), x.dish(0, 10)}, 0, 1);
        Check.law(x, "grief 5;pay 6;grief 1 if new");
        dueRow("with three lines", new int[] {x.count(2), x.dish(0, 9), x.dish(0, 10)}, 3, 6, 7);
        Check.law(x, "joy 2");
        dueRow("with one in their place", new int[] {x.count(2), x.dish(0, 9), x.dish(0, 10)}, 1, -2, 1);
        Check.law(x, "");
        dueRow("with none in its place", new int[] {x.count(2), x.dish(0, 9), x.dish(0, 10)}, 0, 0, 1);
        wrongLaw(() -> with("dish 11111", "grief 5"), "joy 2;joy", 9);
    }

    private static void linesOfLaw() {
        term("LINE { ; LINE }, at most 12:", 5);
        due("one line", turnsBy("grief 1", 0), 1);
        due("two lines", turnsBy("grief 1;grief 2", 0), 3);
        due("12 lines", turnsBy(lines(11, "grief 1") + ";grief 20", 0), 31);
        due("their number", Check.law(new BiteYears(), lines(12, "grief 1")), 12);
        wrongLaw(lines(12, "pay 5") + ";pay 5", 72);
        wrongLaw("pay 5 pay 5", 6);
        wrongLaw("pay 5,pay 5", 5);
        wrongLaw("pay 5;;pay 5", 6);
        wrongLaw(";pay 5", 0);
    }

    private static void lawLine() {
        term("grief N [ if C ] | joy N [ if C ] | pay N [ if C ].", 5);
        String[] words = {"grief", "joy", "pay"};
        for (String word : words) {
            int length = word.length();
            BiteYears x = with(SERVED, word + " 7");
            int[] due = {word.equals("grief") ? 7 : word.equals("joy") ? -7 : 0, word.equals("pay") ? 8 : 1};
            dueRow(word + " without if", new int[] {x.dish(0, 9), x.dish(0, 10)}, due);
            Check.law(x, word + " 7 if new");
            dueRow(word + " if it does not hold", new int[] {x.dish(0, 9), x.dish(0, 10)}, 0, 1);
            dueRow(word + " if it holds", new int[] {x.dish(1, 9), x.dish(1, 10)}, due);
            wrongLaw(word, length);
            wrongLaw(word + " if new", length + 1);
            wrongLaw(word + " 7 new", length + 3);
            wrongLaw(word + " 7 if", length + 5);
            wrongLaw(word + " 7 if;pay 1", length + 5);
            wrongLaw(word + " 7 if new if new", length + 10);
        }
    }

    private static void orAndAnd() {
        term("C: ALL { or ALL }; ALL: ATOM { and ATOM };", 5);
        for (int bits = 0; bits < 8; bits++) {
            boolean a = (bits & 1) != 0;
            boolean b = (bits & 2) != 0;
            boolean c = (bits & 4) != 0;
            dueHolds(term(a) + " or " + term(b) + " and " + term(c), a || b && c);
            dueHolds(term(a) + " and " + term(b) + " or " + term(c), a && b || c);
            dueHolds(term(a) + " or " + term(b) + " or " + term(c), a || b || c);
            dueHolds(term(a) + " and " + term(b) + " and " + term(c), a && b && c);
        }
        dueHolds(term(true), true);
        dueHolds(term(false), false);
        wrongLaw("pay 5 if new or", 15);
        wrongLaw("pay 5 if new and", 16);
        wrongLaw("pay 5 if or new", 9);
        wrongLaw("pay 5 if and new", 9);
        wrongLaw("pay 5 if new and or new", 17);
        wrongLaw("pay 5 if new or and new", 16);
        wrongLaw("pay 5 if new new", 13);
    }

    private static String term(boolean holds) {
        return holds ? "1 < 2" : "2 < 1";
    }

    private static void dueHolds(String condition, boolean want) {
        due("whether " + condition, turnsBy("grief 1 if " + condition, 0), want ? 1 : 0);
    }

    private static void atoms() {
        term("ATOM: not ATOM | ( C ) | new | war | alone | SUM < SUM | SUM > SUM.", 5);
        dueHolds("4 < 5", true);
        dueHolds("5 < 5", false);
        dueHolds("6 < 5", false);
        dueHolds("6 > 5", true);
        dueHolds("5 > 5", false);
        dueHolds("4 > 5", false);
        // A not has its atom alone.
        dueHolds("not 2 < 1 and 2 < 1", false);
        dueHolds("not 2 < 1 or 1 < 2", true);
        dueHolds("not 1 < 2 or 1 < 2", true);
        dueHolds("not (2 < 1 and 2 < 1)", true);
        dueHolds("not (1 < 2 or 1 < 2)", false);
        dueHolds("(1 < 2 or 1 < 2) and 2 < 1", false);
        dueHolds("2 < 1 and (1 < 2 or 1 < 2)", false);
        dueHolds("not not 1 < 2", true);
        dueTurns("grief 1 if new", 0, 1, 1, 0);
        dueTurns("grief 1 if war", 1, 1, 0, 0);
        dueTurns("grief 1 if alone", 0, 0, 0, 1);
        wrongLaw("pay 5 if not", 12);
        wrongLaw("pay 5 if ()", 10);
        wrongLaw("pay 5 if (new", 13);
        wrongLaw("pay 5 if new)", 12);
        wrongLaw("pay 5 if (new))", 14);
        wrongLaw("pay 5 if (new;joy 1", 13);
        wrongLaw("pay 5 if 1", 10);
        wrongLaw("pay 5 if 1 <", 12);
        wrongLaw("pay 5 if < 1", 9);
        wrongLaw("pay 5 if 1 = 1", 11);
        wrongLaw("pay 5 if 1 < 2 < 3", 15);
        wrongLaw("pay 5 if 1 < > 2", 13);
        wrongLaw("pay 5 if new < 1", 13);
        wrongLaw("pay 5 if 1 < new", 13);
        wrongLaw("pay 5 if (1) < 2", 11);
    }

    private static void sums() {
        term("SUM: PART { + PART }; PART: NUMBER | dish | day | place | company | sorrow | spoons.", 5);
        dueHolds("1 + 1 > 1", true);
        dueHolds("1 + 1 > 2", false);
        dueHolds("3 > 1 + 1", true);
        dueHolds("2 > 1 + 1", false);
        dueHolds("999 + 999 > 999 + 998", true);
        dueHolds("999 + 999 > 999 + 999", false);
        dueHolds("day + place + company + dish > 243", true);
        dueHolds("day + place + company + dish > 244", false);
        String many = "0" + "+1".repeat(190);
        dueHolds(many + " > 189", true);
        dueHolds(many + " > 190", false);
        BiteYears x = withSorrow(44, "dish 11111 first 1 at 1", "grief 1 if sorrow < 44;grief 2 if sorrow > 44;grief 4 if spoons < 1;grief 8 if spoons > 1");
        due("sorrow is 44, spoons are 1", x.dish(0, 9), 0);
        wrongLaw("pay 5 if 1 + < 2", 13);
        wrongLaw("pay 5 if + 1 < 2", 9);
        wrongLaw("pay 5 if 1 + 1", 14);
        wrongLaw("pay 5 if 1 < 2 +", 16);
        wrongLaw("pay 5 if 1 1 < 2", 11);
        wrongLaw("pay 5 if today < 2", 9);
        wrongLaw("pay 5 if 1 + new < 2", 13);
        wrongLaw("pay 5 if 1 < spoon", 13);
    }

    private static void numbersOfLaw() {
        term("All numbers are of 1 to 3 digits (N 0 to 60).", 5);
        due("N 0", turnsBy("grief 0", 0), 0);
        due("N 60", turnsBy("grief 60", 0), 60);
        due("N of 3 digits", turnsBy("grief 060", 0), 60);
        String[] words = {"grief", "joy", "pay"};
        for (String word : words) {
            wrongLaw(word + " 61", word.length() + 1);
            wrongLaw(word + " 999", word.length() + 1);
            wrongLaw(word + " 0060", word.length() + 1);
        }
        dueHolds("0 < 1", true);
        dueHolds("998 < 999", true);
        dueHolds("999 < 999", false);
        dueHolds("00 < 001", true);
        dueHolds("61 > 60", true);
        wrongLaw("pay 5 if 1000 > 1", 9);
        wrongLaw("pay 5 if 1 < 1000", 13);
        wrongLaw("pay 5 if 0001 < 2", 9);
        wrongLaw("pay 5 if 1 < 0002", 13);
        wrongLaw("pay 5 if 1 < 2 + 0002", 17);
        wrongLaw("pay 5 if 99999999999 > 1", 9);
    }

    private static void ofTheDish() {
        term("Of a DISH that is served: dish: its number; new: it is NEW;", 5, 7);
        dueTurns("grief 1 if dish < 1;grief 2 if dish > 2", 1, 0, 0, 2);
        BiteYears x = dishes(12);
        Check.law(x, "grief 1 if dish > 10;grief 2 if dish > 11;grief 4 if dish < 0;grief 8 if dish < 1");
        due("dish 0", x.dish(0, 9), 8);
        due("dish 10", x.dish(10, 9), 0);
        due("dish 11", x.dish(11, 9), 1);
        Check.law(x, "grief 1 if new;grief 2 if not new");
        due("a new one", x.dish(0, 9), 1);
        x.had(0, 0, 0, NONE);
        due("a had one", x.dish(0, 9), 2);
    }

    private static void ofWhatItCallsUp() {
        term("of what it CALLS up: day, place, company (9: nobody), war: its FIRST is in the WAR, alone: with nobody "
            + "(if it CALLS up nothing: day TODAY, place HOUSE, company 9, neither war nor alone).", 5, 7);
        // Dish 2 calls up nothing, and today is in the war.
        dueTurns("grief 1 if day < 100;grief 2 if day < 101;grief 4 if day < 240;grief 8 if day < 241;grief 16 if day < 250;grief 32 if day < 251",
            56, 56, 32, 62);
        dueTurns("grief 1 if place > 0;grief 2 if place > 1;grief 4 if place > 2;grief 8 if place > 4;grief 16 if place > 5", 1, 1, 15, 3);
        dueTurns("grief 1 if company > 2;grief 2 if company > 3;grief 4 if company > 8;grief 8 if company > 9", 1, 1, 7, 7);
        dueTurns("grief 1 if war;grief 2 if not war", 1, 1, 2, 2);
        dueTurns("grief 1 if alone;grief 2 if not alone", 2, 2, 2, 1);
        BiteYears asked = with(SERVED, "grief 1 if alone;grief 2 if war;grief 4 if new");
        dueRow("whatever was asked ahead", new int[] {asked.dish(3, 9), asked.dish(2, 9), asked.dish(0, 9), asked.dish(2, 9), asked.dish(3, 9)}, 1, 4, 2, 4, 1);
        BiteYears x = with("dish 11111 first 0 at 0 with 0", "grief 1 if day < 1;grief 2 if place < 1;grief 4 if company < 1;grief 8 if alone;grief 16 if war");
        due("the least of all", x.dish(0, 9), 23);
        x.had(0, 9999, 7, 7);
        Check.law(x, "grief 1 if day > 999 + 999 + 999 + 999 + 999 + 999 + 999 + 999 + 999 + 999 + 8;grief 2 if day > 999 + 999 + 999 + 999 + 999 + 999 + 999 + 999 + 999 + 999 + 9;"
            + "grief 4 if place > 6;grief 8 if place > 7;grief 16 if company > 6;grief 32 if company > 7");
        due("the greatest of all", x.dish(0, 9), 21);
    }

    private static void turns() {
        term("TURNS by: the sum of N of all grief LINES that hold less that of all joy LINES.", 5, 7, 31);
        dueTurns("grief 5;joy 7;grief 1 if new;joy 3 if war;pay 60", -5, -4, -1, -2);
        due("the greatest", turnsBy(lines(12, "grief 60"), 0), 720);
        due("the least", turnsBy(lines(12, "joy 60"), 0), -720);
        due("none that hold", turnsBy("grief 60 if new;joy 60 if new", 0), 0);
        due("none", turnsBy("pay 60", 0), 0);
        due("6 less 6", turnsBy("grief 6;joy 6", 0), 0);
    }

    private static void pays() {
        term("PAYS: WAGE and the sum of N of all pay LINES.", 5, 7);
        BiteYears x = with("dish 11111;wage 50", lines(12, "pay 60"));
        due("the greatest", x.dish(0, 10), 770);
        Check.life(x, "wage 0");
        Check.law(x, "grief 60;joy 1");
        due("the least", x.dish(0, 10), 0);
        Check.law(x, "pay 0;pay 1;pay 2 if new;pay 4 if not new");
        due("those that hold", x.dish(0, 10), 3);
        Check.life(x, "wage 9");
        due("and the wage", x.dish(0, 10), 12);
    }

    // ---- how texts are read ----

    private static void words() {
        term("Words are as long as a to z go on;", 4, 5, 6);
        due("a word ends at a figure", with("slip9").count(11), 9);
        due("a word ends at a sign", turnsBy("grief 1 if not(new)", 0), 1);
        due("a figure ends at a word", with("dish 11111first7at1with2").dish(0, 7), 2);
        wrongLife("slipa 9", 0);
        wrongLife("slipz 9", 0);
        wrongLife("aslip 9", 0);
        wrongLife("dish 11111 firstat", 11);
        wrongLaw("pay 5 if notnew", 9);
        wrongLaw("pay 5 if newor", 9);
        wrongLaw("pay 5ifnew", 5);
        // The signs ahead of a and behind z, and great letters, are in no word.
        wrongLife("slip` 9", 4);
        wrongLife("slip{ 9", 4);
        wrongLife("`slip 9", 0);
        wrongLife("slipA 9", 4);
        wrongLife("SLIP 9", 0);
        wrongLife("Slip 9", 0);
        wrongLife("sl ip 9", 0);
    }

    private static void blanks() {
        term("between all there may be blanks (32), also ahead and behind.", 4, 5, 6);
        due("blanks everywhere in a life", with("  slip  9  ;  war  5  to  6  ").count(9), 5);
        due("no blanks in a life", with("slip9;war5to6").count(10), 6);
        due("blanks everywhere in a law", turnsBy("  grief  1  if  not  (  new  )  and  1  +  1  <  3  ;  joy  5  if  new  ", 0), 1);
        due("no blanks in a law", turnsBy("grief1if not(new)and 1+1<3", 0), 1);
        due("a blank alone ahead", with(" slip 9").count(11), 9);
        due("a blank alone behind", with("slip 9 ").count(11), 9);
        for (int sign : new int[] {0, 9, 10, 13, 31, 33, 160, 255}) {
            wrongLife("slip" + (char) sign + "9", 4);
            wrongLife((char) sign + "slip 9", 0);
            wrongLife("slip 9" + (char) sign, 6);
            wrongLaw("pay 5 if" + (char) sign + "new", 8);
        }
        wrongLife("slip 9 9", 7);
        wrongLife("dish 111 11", 5);
    }

    private static void empty() {
        term("A text that is empty, or blanks alone, has no LINE.", 4, 5, 6);
        for (String text : new String[] {"", " ", "  ", " ".repeat(400)}) {
            BiteYears x = full();
            int texts = x.count(1);
            due("life of " + text.length() + " blanks", Check.life(x, text), texts + 1);
            due("its fault", x.fault(), NONE);
            dueRow("nothing else is told", counts(x, 0, 8, 9, 10, 11, 12, 13), 6, 9, 240, 310, 50, 2, 2);
            due("law of " + text.length() + " blanks", Check.law(x, text), 0);
            due("its fault", x.fault(), NONE);
            dueRow("a law without lines", new int[] {x.count(2), x.dish(0, 9), x.dish(0, 10)}, 0, 0, 2);
        }
        wrongLife(" ".repeat(399) + ";", 399);
        wrongLaw(" ;", 1);
    }

    private static void deep() {
        term("( and not within one another at most 6 deep.", 5, 6);
        dueHolds("not not not not not not 1 < 2", true);
        dueHolds("((((((1 < 2))))))", true);
        dueHolds("not(not(not(1 < 2)))", false);
        dueHolds("(not(not(not 1 < 2)))", false);
        wrongLaw("pay 5 if not not not not not not not new", 33);
        wrongLaw("pay 5 if (((((((new)))))))", 15);
        wrongLaw("pay 5 if not(not(not(not new)))", 21);
        wrongLaw("pay 5 if (not(not(not(new))))", 21);
        // What is behind one another is not within.
        dueHolds("(((((1 < 2) and (1 < 2)) and (1 < 2)) and (1 < 2)) and (1 < 2)) and (1 < 2) and (1 < 2)", true);
        dueHolds("not 2 < 1 and not 2 < 1 and not 2 < 1 and not 2 < 1 and not 2 < 1 and not 2 < 1 and not 2 < 1", true);
        dueHolds("not not not not not not 1 < 2 and not not not not not not 1 < 2", true);
        dueHolds("not (1 < 2) or not (not not not not 1 > 2)", true);
        dueHolds("(((((not 2 < 1 and (2 > 1))))))", true);
        wrongLaw("pay 5 if (((((new and not (war))))))", 26);
        dueHolds("((((((1 < 2)))))) and ((((((1 < 2))))))", true);
        dueHolds("2<1 or 1<2 and(2<1 or 1<2 and(2<1 or 1<2 and(2<1 or 1<2 and(2<1 or 1<2 and(2<1 or 1<2 and(2<1 or 1<2 and 1<2))))))", true);
        dueHolds("2<1 or 1<2 and(2<1 or 1<2 and(2<1 or 1<2 and(2<1 or 1<2 and(2<1 or 1<2 and(2<1 or 1<2 and(2<1 or 1<2 and 2<1))))))", false);
        dueHolds("2<1 or 1<2 and not(2<1 or 1<2 and not(2<1 or 1<2 and not(2<1 or 1<2 and 1<2)))", false);
        dueHolds("2<1 or 1<2 and not(2<1 or 1<2 and not(2<1 or 1<2 and not(2<1 or 1<2 and 2<1)))", true);
        due("each line anew", turnsBy("grief 1 if ((((((1 < 2))))));grief 2 if not not not not not not 1 < 2;grief 4 if (((not not not 2 < 1)))", 0), 7);
    }

    private static void firstWrong() {
        term("The first wrong byte: the begin of the first thing that cannot stand there", 4, 5, 6);
        wrongLife("slip 101;wage 51", 5);
        wrongLife("slip 1;wage 51;reach 46", 12);
        wrongLife("slip  101", 6);
        wrongLife("  bite", 2);
        wrongLife("slip 1 ; bite 5", 9);
        wrongLaw("grief 61;joy 61", 6);
        wrongLaw("grief 1 if new  new", 16);
        wrongLife(" ".repeat(399) + "x", 399);
        wrongLife("x" + " ".repeat(399), 0);
        for (int b = 0; b < 256; b++) {
            if (b != ' ') {
                wrongLife("slip 1" + (char) b + "x", b >= '0' && b <= '9' ? 7 : b == ';' ? 7 : 6);
            }
        }
    }

    private static void moreDigits() {
        term("(a number of more digits,", 4, 5, 6);
        due("three", with("slip 001").count(11), 1);
        wrongLife("slip 0001", 5);
        wrongLife("slip 00000000000000000000001", 5);
        wrongLaw("pay 0005", 4);
        wrongLaw("pay 5 if 0005 < 6", 9);
        wrongLife("slip " + "0".repeat(395), 5);
    }

    private static void outOfBounds() {
        term("or out of its bounds;", 4, 5, 6);
        wrongLife("slip 101 ;", 5);
        wrongLife("war 6 to 5 ;", 9);
        wrongLaw("pay 61 if", 4);
        due("slip 100 is in them", with("slip 100").count(11), 100);
    }

    private static void otherFigures() {
        term("figures of another number;", 4, 6);
        wrongLife("dish 1234 ;", 5);
        wrongLife("dish 123456 ;", 5);
        wrongLife("dish 1 2345", 5);
        wrongLife("dish 1234a", 5);
        wrongLife("dish " + "1".repeat(395), 5);
    }

    private static void wordThatIsNone() {
        term("a word that is none;", 4, 5, 6);
        wrongLife("bite 5", 0);
        wrongLife("slip 1; dishes 11111", 8);
        wrongLife("dish 11111 last 5", 11);
        wrongLife("dish 11111 first 5 in 5", 19);
        wrongLife("dish 11111 first 5 at 5 by 5", 24);
        wrongLife("war 5 till 6", 6);
        wrongLife("grief 5", 0);
        wrongLaw("tax 5", 0);
        wrongLaw("pay 5 when new", 6);
        wrongLaw("pay 5 if old", 9);
        wrongLaw("pay 5 if new xor war", 13);
        wrongLaw("slip 5", 0);
        String life = "dish 11111 first 7 at 1 with 2;today 8;war 3 to 4;reach 5;slip 6;house 7;wage 8";
        due("a life of all words", with(life).count(13), 8);
        spoilWords(life, false);
        String law = "grief 1 if new and war or alone;joy 2 if not dish<1;pay 3 if day<place;pay 4 if company>sorrow+spoons";
        due("a law of all words", Check.law(new BiteYears(), law), 4);
        spoilWords(law, true);
    }

    /** Each letter in turn is a q, which no word has: the word that it is in is none. */
    private static void spoilWords(String text, boolean law) {
        int begin = 0;
        for (int i = 0; i < text.length(); i++) {
            char sign = text.charAt(i);
            boolean letter = sign >= 'a' && sign <= 'z';
            begin = i > 0 && text.charAt(i - 1) >= 'a' && text.charAt(i - 1) <= 'z' ? begin : i;
            String spoiled = text.substring(0, i) + "q" + text.substring(i + 1);
            if (letter && law) {
                wrongLaw(spoiled, begin);
            } else if (letter) {
                wrongLife(spoiled, begin);
            }
        }
    }

    private static void seventhDeep() {
        term("the ( or not that is a 7th one deep;", 5, 6);
        wrongLaw("pay 5 if ((((((  (new)))))))", 17);
        wrongLaw("pay 5 if ((((((  not new))))))", 17);
        wrongLaw("pay 5 if not not not not not not  (new)", 34);
        wrongLaw("pay 5 if (((((( new ))))))and(((((((new)))))))", 35);
        wrongLaw("pay 5 if ((((((new and not war))))))", 23);
        wrongLaw("pay 5 if not not not not not not not", 33);
        due("a 6th one", Check.law(new BiteYears(), "pay 5 if (((((new and not war)))))"), 1);
    }

    private static void tooMany() {
        term("of a LINE, a DISH too many, the first word),", 4, 5, 6);
        String slips = lines(14, "slip 1");
        wrongLife(slips + ";slip 1", 98);
        wrongLife(slips + ";   slip 1", 101);
        wrongLife(slips + ";bite", 98);
        wrongLife(slips + ";slip 101", 98);
        due("14 and blanks", with(slips + "  ").count(11), 1);
        wrongLaw(lines(12, "pay 5") + ";pay 5", 72);
        wrongLaw(lines(12, "pay 5") + "; pay 61", 73);
        String dishes = lines(12, "dish 11111");
        wrongLife(dishes + ";dish 11111", 132);
        wrongLife(dishes + "; slip 1;  dish 11111", 142);
        wrongLife(dishes + ";dish 1", 132);
        wrongLife(dishes + ";dish", 132);
        wrongLife(() -> with(lines(11, "dish 11111")), "dish 22222;slip 1; dish 33333 first 1000", 19);
        due("12 and two other lines", with(dishes + ";slip 1;slip 2").count(0), 12);
    }

    private static void moreMustCome() {
        term("or the text's length, if more must come.", 4, 5, 6);
        wrongLife("dish", 4);
        wrongLife("dish    ", 8);
        wrongLife("slip 1;", 7);
        wrongLife("slip 1;  ", 9);
        wrongLife("dish 11111 first", 16);
        wrongLife("dish 11111 first 5", 18);
        wrongLife("dish 11111 first 5 at", 21);
        wrongLife("dish 11111 first 5 at 5 with", 28);
        wrongLife("war", 3);
        wrongLife("war 5", 5);
        wrongLife("war 5 to ", 9);
        wrongLife(lines(14, "slip 1") + ";", 98);
        wrongLife("slip" + " ".repeat(396), 400);
        wrongLaw("grief", 5);
        wrongLaw("pay 5;", 6);
        wrongLaw("pay 5 if", 8);
        wrongLaw("pay 5 if (", 10);
        wrongLaw("pay 5 if (new", 13);
        wrongLaw("pay 5 if ((new)", 15);
        wrongLaw("pay 5 if not", 12);
        wrongLaw("pay 5 if new and ", 17);
        wrongLaw("pay 5 if day", 12);
        wrongLaw("pay 5 if day <", 14);
        wrongLaw("pay 5 if day < 5 +", 18);
        wrongLaw(lines(12, "pay 5") + ";", 72);
        wrongLaw("pay 5 if 0" + "+1".repeat(195), 400);
    }

    private static void nothingStays() {
        term("Of a wrong text nothing stays.", 4, 5);
        wrongLife(Edges::full, "dish 22222;today 5;war 1 to 2;reach 1;slip 1;house 1;wage 1;x", 60);
        wrongLife(Edges::full, "dish 22222 first 1 at 1 with 1;dish 33333;", 42);
        wrongLife(Edges::full, "today 5 5", 8);
        wrongLife(Edges::full, lines(7, "dish 22222"), 66);
        wrongLife(Edges::full, "war 1 to 0", 9);
        wrongLaw(Edges::full, "pay 50;joy", 10);
        wrongLaw(Edges::full, "grief 50 if not (new", 20);
        wrongLaw(Edges::full, "x", 0);
        wrongLaw(Edges::full, lines(13, "grief 1"), 96);
        BiteYears x = with(SERVED);
        for (String wrong : new String[] {"pay 5 if not (new or (war and (not alone or (", "pay 5 if ((((((", "pay 5 if not not not not not not", lines(12, "grief 9") + ";", "grief 5 if 1 + 2"}) {
            Check.tape(x, wrong);
            try {
                x.law();
            } catch (IllegalArgumentException e) {
                due("the wrong one's end", x.fault(), wrong.length());
            }
            due("a right law behind it", Check.law(x, "grief 3 if not (not (not (new)));grief 4 if ((((((1 < 2))))));grief 50 if not not not not not not new"), 3);
            dueRow("what it says", new int[] {x.dish(0, 9), x.dish(1, 9)}, 7, 54);
        }
    }
}
