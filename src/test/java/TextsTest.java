/** Promises 1 to 6: a new object, the tape, and the two kinds of text. */
public final class TextsTest {
    private static final Class<?> ARGUMENT = IllegalArgumentException.class;

    public static void main(String[] args) {
        newObject();
        feedAndEnd();
        rightLives();
        wrongLives();
        tooManyTexts();
        wrongTextLeavesAll();
        rightLaws();
        wrongLaws();
        depthOfLaws();
        lawsBehindWrongOnes();
        longTexts();
        Check.finish();
    }

    private static void newObject() {
        BiteYears x = new BiteYears();
        int[] due = {0, 0, -1, 500, 500, 0, 0, 0, 5, 0, 0, 0, 0, 1, 0, 0, 0};
        for (int what = 0; what < due.length; what++) {
            Check.due("count " + what + " of a new object", x.count(what), due[what]);
        }
        Check.due("fault of a new object", x.fault(), BiteYears.NONE);
        Check.due("seed of a new object", x.seed(5), 1);
        Check.due("undo of a new object", x.undo(), false);
        Check.due("back of a new object", x.back(), false);
        Check.due("NONE", BiteYears.NONE, -1);
    }

    private static void feedAndEnd() {
        BiteYears x = new BiteYears();
        for (int i = 1; i <= 20; i++) {
            Check.due("feed " + i, x.feed(0, 0, 0, 0, 0), i * 20);
        }
        Check.due("feed beyond 400", x.feed(0, 0, 0, 0, 0), -1);
        Check.due("end beyond the tape", x.end(401), false);
        Check.due("end below 0", x.end(-1), false);
        Check.due("end at the tape's length", x.end(400), true);
        Check.due("still full", x.feed(0, 0, 0, 0, 0), -1);
        Check.due("end 381", x.end(381), true);
        Check.due("feed that would be 401", x.feed(0, 0, 0, 0, 0), -1);
        Check.due("end of more than there are", x.end(382), false);
        Check.due("end 380", x.end(380), true);
        Check.due("feed to 400", x.feed(0, 0, 0, 0, 0), 400);
        Check.due("end 0", x.end(0), true);
        Check.due("feed from 0", x.feed(0, 0, 0, 0, 0), 20);
        x.end(0);
        // The highest byte of each number comes first, and the highest bit is no sign.
        Check.life(x, "dish 00000;dish 00000;dish 00000");
        Check.due("feed of bytes", x.feed(0x00010200, 0x01020001, 0, 0, 0), 20);
        x.end(8);
        Check.due("menu of these bytes", x.menu(2), 8);
        Check.due("feed of a high byte", x.feed(0xFF000000, 0, 0, 0, 0), 20);
        x.end(1);
        Check.dueThrow("byte 255 is no dish", ARGUMENT, () -> x.menu(2));
        Check.due("feed of looks", x.feed(0xC8000000, 0, 0, 0, 0), 20);
        x.end(1);
        x.had(0, 2000, 0, -1);
        Check.due("byte 200 is a look", x.unknown(), 1);
    }

    private static void rightLives() {
        BiteYears x = new BiteYears();
        Check.due("empty life", Check.life(x, ""), 1);
        Check.due("life of blanks", Check.life(x, "   "), 2);
        Check.due("fault of blanks", x.fault(), -1);
        Check.due("all lines", Check.life(x, "  dish01234first007at7with0 ; dish 99999 first 999 at 0;dish55555;today 0;war 999 to 999"
            + ";reach 45;slip 100;house 7;wage 50  "), 3);
        int[] due = {3, 3, -1, 0, 0, 0, 0, 0, 45, 999, 999, 100, 7, 50, 0, 0, 0};
        for (int what = 0; what < due.length; what++) {
            Check.due("count " + what + " behind a life", x.count(what), due[what]);
        }
        for (int i = 0; i < 5; i++) {
            Check.due("taste " + i, x.dish(0, i), i);
        }
        Check.due("first", x.dish(0, 5), 7);
        Check.due("place", x.dish(0, 6), 7);
        Check.due("company", x.dish(0, 7), 0);
        Check.due("nobody", x.dish(1, 7), -1);
        Check.due("first 999", x.dish(1, 5), 999);
        Check.due("new", x.dish(2, 5), -1);
        Check.due("another life", Check.life(x, "dish 11111;war 5 to 5;reach 0;slip 0;house 0;wage 0"), 4);
        Check.due("dishes behind one another", x.count(0), 4);
        Check.due("the first stays", x.dish(0, 4), 4);
        Check.due("the new one is behind", x.dish(3, 0), 1);
        Check.due("war 5 to 5", x.count(9) + x.count(10), 10);
        Check.due("14 lines", Check.life(x, "slip 1;slip 2;slip 3;slip 4;slip 5;slip 6;slip 7;slip 8;slip 9;slip 10;slip 11;slip 12;slip 13;slip 14"), 5);
        Check.due("the last line counts", x.count(11), 14);
        x.spoon(0);
        Check.due("she is in her past", x.count(4), 7);
        Check.life(x, "today 44");
        Check.due("by today she is at it", x.count(4), 44);
        x.spoon(0);
        Check.life(x, "wage 3");
        Check.due("by other lines she stays", x.count(4), 7);
        Check.due("acts behind a text", x.count(16), 0);
    }

    private static void wrongLives() {
        String[] texts = {"dish", "dish ", "dish  ;", "dish 1234", "dish 123456", "dish 12345 6", "dish 12345 12345", "dish x", "dish12345firsts",
            "dish 12345 first", "dish 12345 first ", "dish 12345 first 1000", "dish 12345 first 0001", "dish 12345 first 1", "dish 12345 first 1 ;",
            "dish 12345 first 1 with 1", "dish 12345 first 1 at", "dish 12345 first 1 at 8", "dish 12345 first 1 at 1 with", "dish 12345 first 1 at 1 with 8",
            "dish 12345 first 1 at 1 at", "dish 12345 with 1", "today", "today 1000", "today -1", "today x", "today 5 5", "war", "war 5", "war 5 too 6", "war 5 to",
            "war 5 to 4", "war 1000 to 1001", "war 5 to 1000", "reach 46", "reach 450", "reach 0046", "slip 101", "house 8", "wage 51", "bite", "Dish 11111",
            "dishes 11111", "slip 1;", "slip 1; ", "slip 1;;slip 1", ";", " ;", "slip 1 slip 1", "slip 1,slip 1", "slip 1.", "5", "\t", "\377", "slip 1 ;\0",
            "slip\t1", "today to 5", "first 1", "grief 5", "slip 1 ; wage 51", "DISH", "dishz 11111", "xish 11111", "war 0 to 0", "dish 00000 first 0 at 0 with 0;today 0", "dish 1234a", "dish a2345", "slip 1a", "war 3 to 4 to"};
        int[] due = {4, 5, 6, 5, 5, 11, 11, 5, 9,
            16, 17, 17, 17, 18, 19,
            19, 21, 22, 28, 29,
            24, 11, 5, 6, 6, 6, 8, 3, 5, 6, 8,
            9, 4, 9, 6, 6, 6, 5, 6, 5, 0, 0,
            0, 7, 8, 7, 0, 1, 7, 6, 6, 0, 0, 0, 8,
            4, 6, 0, 0, 14, 0, 0, 0, -1, -1, 5, 5, 6, 11};
        for (int i = 0; i < texts.length; i++) {
            Check.dueLifeFault(new BiteYears(), texts[i], due[i]);
        }
        String dishes12 = "dish 11111;dish 11111;dish 11111;dish 11111;dish 11111;dish 11111;dish 11111;dish 11111;dish 11111;dish 11111;dish 11111;dish 11111";
        BiteYears x = new BiteYears();
        Check.dueLifeFault(x, dishes12 + "; dish 11111", 133);
        Check.dueLifeFault(x, dishes12 + ";dish 1", 132);
        Check.due("no dish stays", x.count(0), 0);
        Check.dueLifeFault(x, dishes12 + ";slip 1;slip 1", -1);
        Check.due("twelve dishes", x.count(0), 12);
        Check.dueLifeFault(x, "slip 5; dish 11111", 8);
        Check.due("nothing stays of it", x.count(11), 1);
        String slips14 = "slip 1;slip 1;slip 1;slip 1;slip 1;slip 1;slip 1;slip 1;slip 1;slip 1;slip 1;slip 1;slip 1;slip 1";
        Check.dueLifeFault(x, slips14 + ";slip 1", 98);
        Check.dueLifeFault(x, slips14 + ";  slip 1", 100);
        Check.dueLifeFault(x, slips14 + ";", 98);
        Check.dueLifeFault(x, slips14 + "; ", 99);
        Check.dueLifeFault(x, slips14 + " ", -1);
        Check.dueLifeFault(x, slips14 + "slip", 97);
    }

    private static void tooManyTexts() {
        BiteYears x = new BiteYears();
        for (int i = 1; i <= 12; i++) {
            Check.due("text " + i, Check.life(x, "slip " + i), i);
        }
        Check.dueLifeFault(x, "slip 1000", 5);
        Check.dueThrow("a 13th text", UnsupportedOperationException.class, () -> Check.life(x, "slip 50"));
        Check.due("its fault", x.fault(), -1);
        Check.due("texts", x.count(1), 12);
        Check.due("nothing of it", x.count(11), 12);
        Check.due("the tape is used up", x.feed(0, 0, 0, 0, 0), 20);
        x.end(0);
        Check.dueThrow("an empty 13th", UnsupportedOperationException.class, x::life);
        Check.due("a law is no text of the life", Check.law(x, "pay 1"), 1);
    }

    private static void wrongTextLeavesAll() {
        BiteYears x = Check.with("dish 11111 first 10 at 1;wage 3", "pay 5");
        x.spoon(0);
        Check.dueLifeFault(x, "dish 22222;today 5;war 1 to 2;reach 1;slip 1;house 1;wage 1;x", 60);
        int[] due = {1, 1, 1, 500, 10, 0, 1, 0, 5, 0, 0, 0, 0, 3, 8, 1, 1};
        for (int what = 0; what < due.length; what++) {
            Check.due("count " + what + " behind a wrong life", x.count(what), due[what]);
        }
        Check.dueLawFault(x, "pay 50;joy", 10);
        Check.due("the law stays", x.dish(0, 10), 8);
        Check.due("its lines stay", x.count(2), 1);
        Check.due("acts stay", x.count(16), 1);
        Check.due("undo behind wrong texts", x.undo(), true);
        Check.due("paid", x.count(14), 0);
    }

    private static void rightLaws() {
        BiteYears x = new BiteYears();
        Check.due("empty law", Check.law(x, ""), 0);
        Check.due("lines of an empty law", x.count(2), 0);
        Check.due("law of blanks", Check.law(x, "  "), 0);
        Check.due("three lines", Check.law(x, " grief 60 if new ; joy 0if war and alone or not new;pay5if(day+1+place<999)and 0>company+sorrow "), 3);
        Check.due("in place of the one before", Check.law(x, "pay 1 if dish < spoons"), 1);
        Check.due("count 2", x.count(2), 1);
        Check.due("twelve lines", Check.law(x, "pay 1;pay 1;pay 1;pay 1;pay 1;pay 1;pay 1;pay 1;pay 1;pay 1;pay 1;pay 1"), 12);
        x.crust();
        Check.law(x, "");
        Check.due("acts behind a law", x.count(16), 0);
    }

    private static void wrongLaws() {
        String[] texts = {"grief", "grief 61", "grief 061", "grief 0060", "grief x", "joy 5 if", "joy 5 if ", "joy 5 when new", "pay 5 if day", "pay 5 if day ;",
            "joy 5 if (war", "joy 5 if (war;", "joy 5 if war)", "tax", "pay 5;", "pay 5 ; ", "pay 5;;pay 5", "pay 5 if not", "pay 5 if not;", "pay 5 if ()",
            "pay 5 if (day) < 5", "pay 5 if day < 5 < 6", "pay 5 if day < new", "pay 5 if new < 5", "pay 5 if day = 5", "pay 5 if day + < 5", "pay 5 if day +",
            "pay 5 if + day < 5", "pay 5 if 1000 < day", "pay 5 if day < 0001", "pay 5 if new and", "pay 5 if and new", "pay 5 if new or or new", "pay 5 if new new",
            "pay 5 if new not war", "pay 5 if new (war)", "pay 5 if evening < 5", "pay 5 if day < 5 + spoon", "pay 5 if newer", "pay 5 if notnew", "pay 5 5",
            "pay 5 if new;grief 5 if (new and (war or alone)", "pay 5 if 5", "pay 5 if day < ", "dish 12345", "pay 5 if day < 5 new", "pay 5 if ((new))) and war",
            "\377", "pay 5 if New", "pay 5 if (new and war", "pay 5 if not (new) and )", "pay 5 if today < 5", "joy 1 ; pay 5 if new or", "pay 5 if <", "nay 5", "pay 5 if xew"};
        int[] due = {5, 6, 6, 6, 6, 8, 9, 6, 12, 13,
            13, 13, 12, 0, 5 + 1, 8, 6, 12, 12, 10,
            13, 17, 15, 13, 13, 15, 14,
            9, 9, 15, 16, 9, 16, 13,
            13, 13, 9, 19, 9, 9, 6,
            47, 10, 15, 0, 17, 16,
            0, 9, 21, 23, 9, 23, 9, 0, 9};
        for (int i = 0; i < texts.length; i++) {
            BiteYears x = new BiteYears();
            Check.dueLawFault(x, texts[i], due[i]);
            Check.due("no law stays of " + texts[i], x.count(2), -1);
        }
        String pays12 = "pay 5;pay 5;pay 5;pay 5;pay 5;pay 5;pay 5;pay 5;pay 5;pay 5;pay 5;pay 5";
        Check.dueLawFault(new BiteYears(), pays12 + ";pay 5", 72);
        Check.dueLawFault(new BiteYears(), pays12 + ";  ", 74);
        Check.dueLawFault(new BiteYears(), pays12, -1);
    }

    private static void depthOfLaws() {
        Check.dueLawFault(new BiteYears(), "pay 5 if not not not not not not not new", 33);
        Check.dueLawFault(new BiteYears(), "pay 5 if not not not not not not new", -1);
        Check.dueLawFault(new BiteYears(), "pay 5 if ((((((new))))))", -1);
        Check.dueLawFault(new BiteYears(), "pay 5 if (((((((new)))))))", 15);
        Check.dueLawFault(new BiteYears(), "pay 5 if not(not(not(new)))", -1);
        Check.dueLawFault(new BiteYears(), "pay 5 if not(not(not(not new)))", 21);
        Check.dueLawFault(new BiteYears(), "pay 5 if not(not(not((new))))", 21);
        // What is closed, or behind its atom, is not within one another.
        Check.dueLawFault(new BiteYears(), "pay 5 if not new and not new and not new and not new and not new and not new and not new", -1);
        Check.dueLawFault(new BiteYears(), "pay 5 if (new)and(new)or(new)and(new)or(new)and(new)or(new)and(new)", -1);
        Check.dueLawFault(new BiteYears(), "pay 5 if (((((not new and not war and (alone))))))", -1);
        Check.dueLawFault(new BiteYears(), "pay 5 if (((((not new and not war and ((alone)))))))", 39);
        Check.dueLawFault(new BiteYears(), "pay 5 if not (new) and not (not not not not (1 < 2 or not new))", 44);
    }

    private static void lawsBehindWrongOnes() {
        BiteYears x = Check.with("dish 11111", null);
        for (int i = 0; i < 4; i++) {
            Check.dueLawFault(x, "pay 5 if not (new or (war and (not alone or (", 45);
            Check.dueLawFault(x, "grief 3 if not (not (not (war)));grief 4 if (((((new)))));grief 50 if not not not not not not war", -1);
            Check.due("turns behind a wrong law", x.dish(0, 9), 7);
        }
    }

    private static void longTexts() {
        StringBuilder law = new StringBuilder("pay 1 if 0");
        while (law.length() + 2 <= 398) {
            law.append("+1");
        }
        law.append("<2");
        BiteYears x = Check.with("dish 11111", null);
        Check.due("a text of 400 bytes", law.length(), 400);
        Check.dueLawFault(x, law.toString(), -1);
        Check.due("its sum is 194", x.dish(0, 10), 1);
        Check.dueLawFault(x, law.toString().replace("<2", ">2"), -1);
        Check.due("its sum is more than 2", x.dish(0, 10), 2);
        Check.dueLawFault(x, law.substring(0, 399), 399);
        Check.dueLawFault(x, law.substring(0, 398), 398);
        Check.dueLifeFault(x, " ".repeat(400), -1);
        Check.dueLifeFault(x, " ".repeat(399) + "x", 399);
        Check.dueLifeFault(x, " ".repeat(394) + "slip 9", -1);
        Check.due("slip at the end", x.count(11), 9);
        Check.dueLawFault(x, "pay 1 if " + "new or ".repeat(55) + "new", -1);
        Check.due("many ors", x.dish(0, 10), 2);
        Check.dueLawFault(x, "pay 1 if war or new and (war or new and (war or new and (war or new and (war or new and (war or new and (war or new and not war))))))", 120);
        Check.dueLawFault(x, "pay 1 if war or new and (war or new and (war or new and (war or new and (war or new and (war or new and (war or new and 1<2))))))", -1);
        Check.due("six brackets with all that waits", x.dish(0, 10), 2);
        Check.dueLawFault(x, "pay 1 if war or new and (war or new and (war or new and (war or new and (war or new and (war or new and (war or new and 1>2))))))", -1);
        Check.due("six brackets in vain", x.dish(0, 10), 1);
    }
}
