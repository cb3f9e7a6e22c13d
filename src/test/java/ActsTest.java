import java.util.NoSuchElementException;

/** Promises 11 to 18 and 42 to 48: acts, the log, the seed, acts undone and the image. */
public final class ActsTest {
    private static final Class<?> INDEX = IndexOutOfBoundsException.class;
    private static final Class<?> ARGUMENT = IllegalArgumentException.class;
    private static final Class<?> STATE = IllegalStateException.class;
    private static final Class<?> ELEMENT = NoSuchElementException.class;

    public static void main(String[] args) {
        spoon();
        spoonBounds();
        crust();
        hadAndForget();
        reachAndHouse();
        look();
        evenings();
        eveningsBySeed();
        log();
        seed();
        undo();
        undoIsDeep();
        image();
        count();
        Check.finish();
    }

    private static void spoon() {
        BiteYears x = Check.with(Check.LIFE, "grief 7 if new;pay 3 if war;joy 2 if spoons > 1");
        Check.due("a new one calls up the nearest", x.spoon(3), 120);
        dueCounts("first spoon", x, 600, 120, 7, 1, 2);
        Check.due("it is had today", x.dish(3, 5), 600);
        Check.due("in the house", x.dish(3, 6), 5);
        Check.due("with nobody", x.dish(3, 7), -1);
        Check.due("then it calls itself up", x.spoon(3), 600);
        dueCounts("second spoon", x, 600, 600, 7, 2, 4);
        Check.due("a lonely new one", x.spoon(4), 600);
        dueCounts("third spoon", x, 600, 600, 12, 3, 6);
        Check.due("one of the war", x.spoon(2), 305);
        dueCounts("fourth spoon", x, 600, 305, 10, 4, 11);
        Check.dueThrow("spoon of none", INDEX, () -> x.spoon(6));
        Check.dueThrow("spoon of below", INDEX, () -> x.spoon(-1));
        Check.due("acts", x.count(16), 4);
    }

    private static void dueCounts(String when, BiteYears x, int today, int at, int sorrow, int spoons, int paid) {
        Check.due(when + ": today", x.count(3), today);
        Check.due(when + ": at", x.count(4), at);
        Check.due(when + ": sorrow", x.count(5), sorrow);
        Check.due(when + ": spoons", x.count(6), spoons);
        Check.due(when + ": paid", x.count(14), paid);
    }

    private static void spoonBounds() {
        BiteYears x = Check.with("dish 11111 first 1 at 1;wage 50", "grief 50;joy 60 if sorrow > 98;pay 60;pay 60;pay 60;pay 60");
        x.spoon(0);
        Check.due("sorrow 50", x.count(5), 50);
        x.spoon(0);
        Check.due("sorrow is 99 at most", x.count(5), 99);
        Check.dueThrow("with 99 she takes no spoon", STATE, () -> x.spoon(0));
        Check.dueThrow("the index comes first", INDEX, () -> x.spoon(1));
        Check.due("nothing was taken", x.count(6), 2);
        Check.due("acts", x.count(16), 2);
        Check.due("log", x.count(15), 2);
        Check.law(x, "joy 60;pay 60;pay 60;pay 60;pay 60;pay 60;pay 60;pay 60;pay 60");
        x.crust();
        Check.due("half of 99", x.count(5), 49);
        x.spoon(0);
        Check.due("sorrow is 0 at least", x.count(5), 0);
        Check.due("paid", x.count(14), 580 + 530);
        for (int i = 0; i < 17; i++) {
            x.spoon(0);
        }
        Check.due("paid is 9999 at most", x.count(14), 9999);
    }

    private static void crust() {
        BiteYears x = Check.with("dish 11111 first 1 at 1;today 998", "grief 7");
        x.spoon(0);
        Check.due("crust", x.crust(), 999);
        dueCounts("crust", x, 999, 999, 3, 0, 1);
        Check.due("evening", x.count(7), 1);
        Check.due("beyond what may be told", x.crust(), 1000);
        Check.due("sorrow", x.count(5), 1);
        x.crust();
        Check.due("sorrow", x.count(5), 0);
        for (int i = 0; i < 155; i++) {
            x.evenings(60);
        }
        Check.due("today is 9999 at most", x.count(3), 9999);
        Check.due("evening", x.count(7), 9303);
        for (int i = 0; i < 12; i++) {
            x.evenings(60);
        }
        Check.due("evening is 9999 at most", x.count(7), 9999);
        Check.due("crust at the end of days", x.crust(), 9999);
        Check.due("at", x.count(4), 9999);
    }

    private static void hadAndForget() {
        BiteYears x = Check.with("dish 11111 first 1 at 1;dish 22222", null);
        Check.due("had that was new", x.had(1, 9999, 7, 7), -1);
        Check.due("first", x.dish(1, 5), 9999);
        Check.due("place", x.dish(1, 6), 7);
        Check.due("company", x.dish(1, 7), 7);
        Check.due("had that was had", x.had(0, 0, 0, -1), 1);
        Check.due("first 0", x.dish(0, 5), 0);
        Check.due("nobody", x.dish(0, 7), -1);
        Check.due("she stays where she is", x.count(4), 500);
        Check.dueThrow("had of none", INDEX, () -> x.had(2, 0, 0, 0));
        Check.dueThrow("had of below", INDEX, () -> x.had(-1, 0, 0, 0));
        Check.dueThrow("place 8", INDEX, () -> x.had(0, 0, 8, 0));
        Check.dueThrow("place -1", INDEX, () -> x.had(0, 0, -1, 0));
        Check.dueThrow("place comes first", INDEX, () -> x.had(0, -1, 8, 9));
        Check.dueThrow("day -1", ARGUMENT, () -> x.had(0, -1, 0, 0));
        Check.dueThrow("day 10000", ARGUMENT, () -> x.had(0, 10000, 0, 0));
        Check.dueThrow("company 8", ARGUMENT, () -> x.had(0, 0, 0, 8));
        Check.dueThrow("company -2", ARGUMENT, () -> x.had(0, 0, 0, -2));
        Check.due("acts", x.count(16), 2);
        Check.due("forget", x.forget(1), 9999);
        Check.due("new", x.left(), 2);
        Check.due("of a new one no place", x.dish(1, 6), -1);
        Check.due("of a new one no company", x.dish(1, 7), -1);
        Check.dueThrow("forget a new one", STATE, () -> x.forget(1));
        Check.dueThrow("forget none", INDEX, () -> x.forget(2));
        Check.dueThrow("forget below", INDEX, () -> x.forget(-1));
        Check.due("acts", x.count(16), 3);
    }

    private static void reachAndHouse() {
        BiteYears x = new BiteYears();
        Check.due("reach", x.reach(45), 5);
        Check.due("reach", x.reach(0), 45);
        Check.dueThrow("reach 46", ARGUMENT, () -> x.reach(46));
        Check.dueThrow("reach -1", ARGUMENT, () -> x.reach(-1));
        Check.due("reach stays", x.count(8), 0);
        Check.due("house", x.house(7), 0);
        Check.due("house", x.house(3), 7);
        Check.dueThrow("house 8", INDEX, () -> x.house(8));
        Check.dueThrow("house -1", INDEX, () -> x.house(-1));
        Check.due("house stays", x.count(12), 3);
        Check.due("acts", x.count(16), 4);
    }

    private static void look() {
        BiteYears x = Check.with("dish 11111 first 129 at 1;slip 0", null);
        Check.due("look", x.look(), 50);
        Check.due("a draw was made", x.seed(1), 1103515245 + 12345);
        x.spoon(0);
        Check.due("look in the past", x.look(), 12);
        Check.due("acts", x.count(16), 3);
        Check.life(x, "slip 100;today 999");
        Check.due("a slip", x.look(), 100);
        // The first draws from 1 are 16838, 5758, 10113, 17515: 38, 58, 13, 15 of 100.
        Check.life(x, "slip 38");
        x.seed(1);
        Check.due("38 is not below 38", x.look(), 99);
        Check.life(x, "slip 39");
        x.seed(1);
        Check.due("38 is below 39", x.look(), 100);
        Check.due("58", x.look(), 99);
        Check.due("13", x.look(), 100);
        Check.due("15", x.look(), 100);
    }

    private static void evenings() {
        BiteYears x = Check.with("dish 11111 first 10 at 1;dish 22222 first 20 at 1;dish 99999;wage 1", "grief 1");
        Check.dueThrow("no evening", ARGUMENT, () -> x.evenings(0));
        Check.dueThrow("evenings below 0", ARGUMENT, () -> x.evenings(-1));
        Check.dueThrow("61 evenings", ARGUMENT, () -> x.evenings(61));
        // 16838 of 4 is 2, and 1: three spoons, of dishes 5758, 10113 and 17515 of 3: 1, 0, 1.
        Check.due("an evening", x.evenings(1), 3);
        int[][] due = {{0, 1, 1, 20}, {0, 0, 0, 10}, {0, 1, 1, 20}};
        for (int ago = 0; ago < 3; ago++) {
            for (int what = 0; what < 4; what++) {
                Check.due("log " + ago + " " + what, x.log(ago, what), due[ago][what]);
            }
        }
        dueCounts("evening", x, 501, 501, 1, 0, 3);
        Check.due("evenings", x.count(7), 1);
        Check.due("acts", x.count(16), 1);
        int seed = x.seed(1);
        x.seed(seed);
        Check.due("four draws", seed, drawn(4));
        Check.due("evenings are one act", x.evenings(60) > 60, true);
        Check.due("acts", x.count(16), 2);
        x.undo();
        Check.due("seed is as ahead", x.seed(seed), seed);

        BiteYears sad = Check.with("dish 11111 first 10 at 1", "grief 60");
        // Three spoons are drawn, she takes two of them; the draws of all are made.
        Check.due("spoons that she takes", sad.evenings(1), 2);
        Check.due("sorrow", sad.count(5), 49);
        Check.due("log", sad.count(15), 2);
        Check.due("four draws", sad.seed(1), drawn(4));

        BiteYears none = new BiteYears();
        Check.due("evenings without dishes", none.evenings(3), 0);
        Check.due("today", none.count(3), 503);
        Check.due("how many spoons is drawn all the same", none.seed(1), drawn(3));
    }

    /** Spoons of each evening from a seed, by the document's rule alone. */
    private static void eveningsBySeed() {
        boolean[] many = new boolean[5];
        for (int seed = 1; seed <= 40; seed++) {
            BiteYears x = Check.with("dish 11111 first 10 at 1", null);
            x.seed(seed);
            int due = ((1103515245 * seed + 12345) >>> 16 & 32767) % 4 + 1;
            Check.due("spoons from seed " + seed, x.evenings(1), due);
            many[due] = true;
        }
        Check.due("all of 1 to 4 came", many[1] && many[2] && many[3] && many[4], true);
    }

    private static int drawn(int draws) {
        int seed = 1;
        for (int i = 0; i < draws; i++) {
            seed = 1103515245 * seed + 12345;
        }
        return seed;
    }

    private static void log() {
        BiteYears x = Check.with("dish 11111 first 10 at 1;dish 11112;dish 99999", null);
        Check.due("no row", x.log(0, 0), -2);
        Check.dueThrow("what 4", ELEMENT, () -> x.log(0, 4));
        Check.dueThrow("what -1", ELEMENT, () -> x.log(-1, -1));
        Check.due("led of none", x.led(0, false), 0);
        Check.due("led of none", x.led(0, true), -1);
        x.spoon(1);
        x.crust();
        x.spoon(2);
        x.spoon(1);
        int[][] due = {{1, 1, 1, 500}, {1, 2, -1, 501}, {0, 1, 0, 10}};
        for (int ago = 0; ago < 3; ago++) {
            for (int what = 0; what < 4; what++) {
                Check.due("log " + ago + " " + what, x.log(ago, what), due[ago][what]);
            }
        }
        Check.due("rows", x.count(15), 3);
        Check.due("beyond the rows", x.log(3, 0), -2);
        Check.due("ahead of the rows", x.log(-1, 0), -2);
        Check.due("far beyond", x.log(Integer.MAX_VALUE, 3), -2);
        Check.due("far ahead", x.log(Integer.MIN_VALUE, 3), -2);
        Check.due("led", x.led(1, false), 2);
        Check.due("led", x.led(2, false), 1);
        Check.due("led", x.led(0, false), 0);
        Check.due("the latest evening", x.led(1, true), 1);
        Check.due("the latest evening of another", x.led(2, true), 1);
        x.crust();
        x.crust();
        x.spoon(2);
        Check.due("the latest evening by its number", x.led(2, true), 3);
        x.undo();
        Check.due("the log is as ahead", x.log(0, 1), 1);
        Check.due("its rows are as ahead", x.count(15), 3);
        Check.due("no evening", x.led(0, true), -1);
        Check.dueThrow("led of none", INDEX, () -> x.led(3, false));
        Check.dueThrow("led of below", INDEX, () -> x.led(-1, true));
        for (int i = 0; i < 57; i++) {
            x.spoon(0);
        }
        Check.due("60 rows", x.count(15), 60);
        Check.due("the first one is there", x.log(59, 3), 10);
        Check.due("by its dish", x.log(59, 1), 1);
        x.spoon(0);
        Check.due("60 rows at most", x.count(15), 60);
        Check.due("the first one is gone", x.log(59, 1), 2);
        Check.due("nothing behind", x.log(60, 1), -2);
        for (int ago = 0; ago < 58; ago++) {
            Check.due("row " + ago, x.log(ago, 1) * 100000 + x.log(ago, 0) * 10000 + x.log(ago, 3), 30010);
        }
        x.spoon(2);
        x.spoon(2);
        x.undo();
        x.undo();
        Check.due("rows that were gone are there again", x.log(58, 1) * 10 + x.log(59, 1), 12);
        Check.due("led by rows alone", x.led(1, false), 1);
        Check.due("led", x.led(0, false), 58);
    }

    private static void seed() {
        BiteYears x = new BiteYears();
        Check.due("seed", x.seed(-7), 1);
        Check.due("seed", x.seed(Integer.MIN_VALUE), -7);
        Check.due("seed", x.seed(0), Integer.MIN_VALUE);
        Check.due("no act", x.count(16), 0);
        x.look();
        Check.due("seed", x.seed(1), 12345);
    }

    private static void undo() {
        BiteYears x = Check.with("dish 11111 first 10 at 1;dish 99999;slip 50", "grief 9;pay 2");
        x.spoon(1);
        Check.due("undo a spoon", x.undo(), true);
        Check.due("new again", x.left(), 2);
        dueCounts("undone", x, 500, 500, 0, 0, 0);
        Check.due("log undone", x.count(15), 0);
        Check.due("no act", x.count(16), 0);
        Check.due("no more", x.undo(), false);
        x.reach(9);
        x.house(4);
        x.had(0, 77, 7, 7);
        x.forget(0);
        x.look();
        x.crust();
        x.evenings(5);
        Check.due("acts", x.count(16), 7);
        x.undo();
        Check.due("evenings undone", x.count(3), 501);
        Check.due("log undone", x.count(15), 0);
        x.undo();
        Check.due("crust undone", x.count(3), 500);
        x.undo();
        Check.due("look undone", x.seed(1), 1);
        x.undo();
        Check.due("forgetting undone", x.dish(0, 5), 77);
        x.undo();
        Check.due("telling undone", x.dish(0, 5) * 100 + x.dish(0, 6) * 10 + x.dish(0, 7), 1009);
        x.undo();
        Check.due("house undone", x.count(12), 0);
        x.undo();
        Check.due("reach undone", x.count(8), 5);
        Check.due("no more", x.undo(), false);
    }

    private static void undoIsDeep() {
        BiteYears x = Check.with("dish 11111 first 10 at 1", null);
        for (int i = 0; i < 15; i++) {
            x.crust();
        }
        Check.due("12 are remembered", x.count(16), 12);
        for (int i = 0; i < 12; i++) {
            Check.due("undo " + i, x.undo(), true);
        }
        Check.due("the 13th is not", x.undo(), false);
        Check.due("today", x.count(3), 503);
        for (int i = 0; i < 3; i++) {
            x.crust();
            x.spoon(0);
            x.undo();
        }
        Check.due("acts", x.count(16), 3);
        Check.due("today", x.count(3), 506);
        Check.dueThrow("what throws is no act", ARGUMENT, () -> x.reach(46));
        Check.due("acts", x.count(16), 3);
        x.seed(5);
        x.spoon(0);
        x.seed(9);
        x.undo();
        Check.due("the seed is as ahead of the act", x.seed(1), 5);
        Check.tape(x, "slip");
        Check.dueThrow("wrong text", ARGUMENT, x::life);
        x.feed(0, 0, 0, 0, 0);
        x.image();
        x.undo();
        Check.due("fault stays", x.fault(), 4);
        Check.due("the tape stays", x.feed(0, 0, 0, 0, 0), 40);
        Check.due("the image stays", x.back(), true);
        Check.due("today of the image", x.count(3), 506);
        x.crust();
        Check.law(x, "");
        Check.due("a law forgets acts", x.undo(), false);
        x.crust();
        Check.life(x, "");
        Check.due("a life forgets acts", x.undo(), false);
    }

    private static void image() {
        BiteYears x = Check.with("dish 11111 first 10 at 1;dish 22222", "pay 5");
        Check.due("back without", x.back(), false);
        x.spoon(0);
        Check.due("acts stay", x.count(16), 1);
        x.image();
        Check.due("acts stay", x.count(16), 1);
        Check.life(x, "dish 33333;today 7;war 1 to 2;reach 3;slip 4;house 5;wage 6");
        Check.law(x, "grief 5;joy 1");
        x.spoon(1);
        x.evenings(3);
        x.forget(0);
        x.seed(99);
        Check.tape(x, "slip");
        Check.dueThrow("wrong text", ARGUMENT, x::life);
        x.feed(0, 0, 0, 0, 0);
        for (int i = 0; i < 2; i++) {
            Check.due("back", x.back(), true);
            int[] due = {2, 1, 1, 500, 10, 0, 1, 0, 5, 0, 0, 0, 0, 1, 6, 1, 0};
            for (int what = 0; what < due.length; what++) {
                Check.due("count " + what + " of the image", x.count(what), due[what]);
            }
            Check.due("dishes of the image", x.left(), 2);
            Check.due("first of the image", x.dish(0, 5), 10);
            Check.due("log of the image", x.log(0, 1), 0);
            Check.due("law of the image", x.dish(0, 10), 6);
            Check.due("seed of the image", x.seed(4), 1);
            x.crust();
        }
        Check.due("fault stays", x.fault(), 4);
        Check.due("the tape stays", x.feed(0, 0, 0, 0, 0), 40);
        x.back();
        Check.due("going back forgets acts", x.undo(), false);
        BiteYears y = new BiteYears();
        y.image();
        Check.law(y, "pay 5");
        Check.due("back to no law", y.back(), true);
        Check.due("no law", y.count(2), -1);
        Check.law(y, "pay 5");
        y.image();
        y.back();
        Check.due("the image is the latest one", y.count(2), 1);
    }

    private static void count() {
        BiteYears x = Check.with(Check.LIFE, "pay 1;pay 2");
        x.reach(7);
        x.spoon(0);
        x.crust();
        x.spoon(2);
        int[] due = {6, 1, 2, 601, 305, 0, 1, 1, 7, 240, 310, 50, 5, 2, 10, 2, 4};
        for (int what = 0; what < due.length; what++) {
            Check.due("count " + what, x.count(what), due[what]);
        }
        Check.due("count 17", x.count(17), -1);
        Check.due("count -1", x.count(-1), -1);
        Check.due("count of the least", x.count(Integer.MIN_VALUE), -1);
        Check.due("count of the greatest", x.count(Integer.MAX_VALUE), -1);
    }
}
