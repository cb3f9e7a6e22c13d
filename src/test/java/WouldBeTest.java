import java.util.NoSuchElementException;

/** Promises 19 to 25, 33, 38, 40 and 41: what would be; nothing of it stays. */
public final class WouldBeTest {
    private static final Class<?> INDEX = IndexOutOfBoundsException.class;
    private static final Class<?> ARGUMENT = IllegalArgumentException.class;
    private static final Class<?> ELEMENT = NoSuchElementException.class;

    public static void main(String[] args) {
        menu();
        menuThrows();
        fewest();
        order();
        orderAtTheEnd();
        he();
        unknown();
        serve();
        jars();
        jarsThrow();
        breaks();
        odds();
        trialAndSpan();
        Check.finish();
    }

    private static int menu(BiteYears x, int what, int... dishes) {
        Check.tape(x, dishes);
        return x.menu(what);
    }

    private static void dueMenu(BiteYears x, String name, int[] due, int... dishes) {
        for (int what = 0; what < 4; what++) {
            Check.due(name + " what " + what, menu(x, what, dishes), due[what]);
        }
    }

    private static void menu() {
        BiteYears x = Check.with(Check.LIFE, "grief 10 if new;grief 20 if spoons > 1;joy 3 if war;pay 7 if sorrow > 9");
        x.spoon(0);
        dueMenu(x, "empty menu", new int[] {120, 0, 0, 0});
        dueMenu(x, "one", new int[] {120, 10, 1, 2}, 3);
        // Sorrow 0, 10, 30, 47; the last one is of the war.
        dueMenu(x, "three", new int[] {305, 47, 3, 2 + 9 + 9}, 3, 3, 2);
        // Once eaten, the new one calls itself up: 10, then 30.
        dueMenu(x, "twice", new int[] {600, 30, 2, 11}, 4, 4);
        // Sorrow 20, 40, 60, 80, 99: what is behind is not taken, and she stays where she was.
        dueMenu(x, "till 99", new int[] {120, 99, 6, 2 + 2 + 9 * 4}, 0, 0, 0, 0, 0, 0, 2, 2, 2);
        Check.due("nothing stays: new", x.left(), 24);
        Check.due("nothing stays: at", x.count(4), 120);
        Check.due("nothing stays: sorrow", x.count(5), 0);
        Check.due("nothing stays: paid", x.count(14), 2);
        Check.due("nothing stays: log", x.count(15), 1);
        Check.due("nothing stays: acts", x.count(16), 1);
        Check.due("the tape is used up", x.feed(0, 0, 0, 0, 0), 20);
        Check.law(x, "grief 60;pay 60;pay 60;pay 60;pay 60;pay 60");
        x.spoon(0);
        x.spoon(0);
        dueMenu(x, "with 99 from the first", new int[] {120, 99, 0, 0}, 1, 1);
        Check.law(x, "pay 60;pay 60;pay 60;pay 60;pay 60;pay 60");
        x.crust();
        int[] many = new int[40];
        Check.due("forty: what all pay together", menu(x, 3, many), 40 * 362);
        Check.due("forty spoons", menu(x, 2, many), 40);
    }

    private static void menuThrows() {
        BiteYears x = Check.with(Check.LIFE, null);
        Check.dueThrow("41", ARGUMENT, () -> menu(x, 0, new int[41]));
        Check.due("the tape is used up", x.feed(0, 0, 0, 0, 0), 20);
        Check.dueThrow("no such dish", ARGUMENT, () -> menu(x, 0, 0, 6));
        Check.dueThrow("no such dish nor what", ARGUMENT, () -> menu(x, 4, 6));
        Check.dueThrow("what 4", ELEMENT, () -> menu(x, 4, 0));
        Check.due("the tape is used up", x.feed(0, 0, 0, 0, 0), 20);
        Check.dueThrow("what -1", ELEMENT, () -> menu(x, -1));
        Check.dueThrow("no dishes", ARGUMENT, () -> menu(new BiteYears(), 0, 0));
        Check.due("none of no dishes", menu(new BiteYears(), 0), 500);
    }

    private static void fewest() {
        BiteYears x = Check.with("dish 11111;dish 11111 first 110 at 0;dish 11111 first 199 at 0;dish 11111 first 0 at 0;dish 11111 first 999 at 0;"
            + "dish 11111 first 200 at 0", null);
        Check.due("none must", x.fewest(0, 0), 0);
        Check.due("none must, all must not", x.fewest(0, 1023), 0);
        Check.due("of several the least", x.fewest(2, 0), 2);
        Check.due("ages 0, 1, 9", x.fewest(1 | 2 | 512, 4), 8 | 2 | 16);
        Check.due("ages 2", x.fewest(4, 2), 32);
        Check.due("all must", x.fewest(1023, 0), -1);
        Check.due("the first dish", Check.with("dish 11111 first 999 at 0", null).fewest(512, 511), 1);
        Check.due("an age not had", x.fewest(8, 0), -1);
        Check.due("must and must not", x.fewest(6, 4), -1);
        Check.due("must not that is not had", x.fewest(2, 8), 2);
        Check.dueThrow("must 1024", ARGUMENT, () -> x.fewest(1024, 0));
        Check.dueThrow("must -1", ARGUMENT, () -> x.fewest(-1, 0));
        Check.dueThrow("not 1024", ARGUMENT, () -> x.fewest(0, 1024));
        Check.dueThrow("not -1", ARGUMENT, () -> x.fewest(0, -1));
        x.had(1, 1100, 0, -1);
        Check.due("age 11 counts for nothing", x.fewest(2, 0), 4);
        x.had(0, 1000, 0, -1);
        x.forget(3);
        Check.due("age 10 counts for nothing", x.fewest(1, 0), -1);
        BiteYears all = Check.with("dish 11111 first 0 at 0;dish 11111 first 100 at 0;dish 11111 first 299 at 0;dish 11111 first 399 at 0;dish 11111 first 400 at 0;"
            + "dish 11111 first 500 at 0;dish 11111 first 699 at 0;dish 11111 first 700 at 0;dish 11111 first 800 at 0;dish 11111 first 900 at 0", null);
        Check.due("all must and are had", all.fewest(1023, 0), 1023);
        Check.due("age 1 ends at 199", Check.with("dish 11111 first 200 at 0", null).fewest(2, 0), -1);
    }

    private static void dueOrder(BiteYears x, String name, int set, int greatest, int... row) {
        Check.due(name + ": how great", x.order(set, -1), greatest);
        for (int k = 0; k < row.length; k++) {
            Check.due(name + ": the " + k + "-th", x.order(set, k), row[k]);
        }
        Check.due(name + ": behind the last", x.order(set, row.length), -1);
        Check.due(name + ": far behind", x.order(set, Integer.MAX_VALUE), -1);
        Check.due(name + ": below none", x.order(set, -2), -1);
    }

    private static void order() {
        BiteYears x = Check.with("dish 00000 first 1 at 0;dish 99999 first 2 at 0;dish 55555 first 3 at 0;dish 77777;dish 33333;dish 11111;dish 22222;reach 0",
            "grief 30 if dish < 1;joy 20 if dish > 0 and dish < 2;grief 25 if dish > 1 and dish < 3;grief 40 if spoons < 1 and dish < 1");
        // 0 is worth 30 (70 as the first), 1 is worth -20, 2 is worth 25.
        dueOrder(x, "2, 0 and 1", 7, 35, 2, 1, 0);
        dueOrder(x, "0 and 2", 5, 55, 2, 0);
        dueOrder(x, "0 alone", 1, 70, 0);
        dueOrder(x, "none", 0, 0);
        dueOrder(x, "bits of none", 1 << 7 | 1 << 31 | 2, 0, 1);
        dueOrder(x, "all alike in their order", 8 | 16 | 32 | 64, 0, 3, 4, 5, 6);
        Check.dueThrow("seven", ARGUMENT, () -> x.order(127, -1));
        Check.dueThrow("seven by all bits", ARGUMENT, () -> x.order(-1, 9));
        Check.due("six", x.order(63, -1), 35);
        Check.due("nothing stays", x.count(16) + x.count(15) + x.count(5), 0);
        Check.law(x, "grief 10 if new;joy 10 if not new");
        Check.due("a spoon makes a new one had, in the row alone", x.order(8 | 1, -1), 10);
        x.spoon(3);
        // Now is 10 already; 3 and 0 gladden, 4 grieves.
        dueOrder(x, "from now on", 1 | 8 | 16, 10, 0, 3, 4);
    }

    private static void orderAtTheEnd() {
        BiteYears x = Check.with("dish 00000 first 1 at 0;dish 99999 first 2 at 0;dish 55555 first 3 at 0", "grief 60;joy 60 if dish > 1;joy 50 if dish > 1");
        // Two of 60 make 99, and behind it nothing is taken; with 2 between, it is 60 twice.
        dueOrder(x, "2 between", 7, 70, 0, 2, 1);
        x.spoon(0);
        dueOrder(x, "now 60", 3, 99, 0, 1);
        dueOrder(x, "now 60, and 2", 7, 99, 0, 1, 2);
        x.spoon(0);
        dueOrder(x, "now 99", 6, 99, 1, 2);
        dueOrder(x, "now 99, none", 0, 99);
    }

    private static int he(BiteYears x, int... bytes) {
        Check.tape(x, bytes);
        return x.he();
    }

    private static void he() {
        BiteYears x = Check.with("dish 11111 first 120 at 1 with 3;dish 11111 first 199 at 1 with 4;dish 11111 first 205 at 2 with 3;dish 11111 first 130 at 1;"
            + "dish 11111;dish 11111 first 5 at 0 with 0;dish 11111 first 999 at 7 with 7", null);
        Check.due("without any", he(x), 255);
        Check.due("one pair", he(x, 1, 1), 8 | 16);
        Check.due("two pairs", he(x, 1, 1, 2, 2), 8);
        Check.due("the same twice", he(x, 1, 1, 1, 1), 8 | 16);
        Check.due("none", he(x, 1, 1, 0, 0), 0);
        Check.due("age 0 at 0: a new one is nowhere", he(x, 0, 0), 1);
        Check.due("age 9 at 7", he(x, 9, 7), 128);
        Check.due("another place", he(x, 1, 2), 0);
        x.had(0, 9999, 1, 5);
        Check.due("age 99", he(x, 99, 1), 32);
        Check.dueThrow("age 100", ARGUMENT, () -> he(x, 100, 1));
        Check.due("the tape is used up", x.feed(0, 0, 0, 0, 0), 20);
        Check.dueThrow("place 8", ARGUMENT, () -> he(x, 1, 1, 1, 8));
        Check.dueThrow("three bytes", ARGUMENT, () -> he(x, 1, 1, 1));
        Check.due("forty bytes", he(x, new int[40]), 1);
        Check.dueThrow("42 bytes", ARGUMENT, () -> he(x, new int[42]));
        Check.dueThrow("41 bytes", ARGUMENT, () -> he(x, new int[41]));
        Check.due("without dishes", he(new BiteYears(), 0, 0), 0);
    }

    private static int unknown(BiteYears x, int... looks) {
        Check.tape(x, looks);
        return x.unknown();
    }

    private static void unknown() {
        BiteYears x = Check.with("dish 11111 first 120 at 1;dish 11111 first 129 at 1;dish 11111 first 130 at 1;dish 11111;dish 11111 first 0 at 1", null);
        Check.due("none told", unknown(x), 1 | 2 | 4 | 16);
        Check.due("12", unknown(x, 12), 3);
        Check.due("13", unknown(x, 13), 7);
        Check.due("14", unknown(x, 14), 4);
        Check.due("12 and 13", unknown(x, 12, 13), 3);
        Check.due("13 and 14", unknown(x, 13, 14, 13), 4);
        Check.due("12 and 14", unknown(x, 12, 14), 0);
        Check.due("0", unknown(x, 0), 16);
        Check.due("1", unknown(x, 1), 16);
        Check.due("2", unknown(x, 2), 0);
        Check.due("20 looks", unknown(x, new int[20]), 16);
        Check.dueThrow("21 looks", ARGUMENT, () -> unknown(x, new int[21]));
        Check.due("the tape is used up", x.feed(0, 0, 0, 0, 0), 20);
        x.had(0, 2549, 0, -1);
        Check.due("byte 255", unknown(x, 255), 1);
        Check.due("slips do not count: byte 254", unknown(x, 254), 1);
    }

    private static int serve(BiteYears x, int... looks) {
        Check.tape(x, looks);
        return x.serve();
    }

    private static void serve() {
        BiteYears x = Check.with("dish 11111 first 500 at 1;dish 11111 first 121 at 1;dish 11111 first 123 at 1;dish 11111 first 125 at 1;"
            + "dish 11111 first 127 at 1;dish 11111;dish 11111 first 122 at 1;dish 11111 first 124 at 0", null);
        // 121, 122, 123, 124, 125, 127 fit 12: the third one parts them by half.
        Check.due("by half", serve(x, 12), 2);
        x.forget(2);
        Check.due("by the least of those that part alike", serve(x, 12, 12), 6);
        x.forget(6);
        x.forget(7);
        // 121, 125, 127: 1 and 2, or 2 and 1.
        Check.due("of several the least", serve(x, 12), 1);
        x.forget(4);
        x.forget(3);
        Check.due("fewer than two", serve(x, 12), -1);
        Check.due("two of all", serve(x), 1);
        x.had(2, 121, 0, -1);
        Check.due("those of the same day are not parted", serve(x, 12), 0);
        x.had(0, 10, 0, -1);
        Check.due("a dish that does not fit may be asked of", serve(x, 12), 0);
        Check.due("none fits", serve(x, 99), -1);
        Check.due("20 looks", serve(x, new int[20]), -1);
        Check.dueThrow("21 looks", ARGUMENT, () -> serve(x, new int[21]));
        Check.due("the tape is used up", x.feed(0, 0, 0, 0, 0), 20);
        Check.due("without dishes", serve(new BiteYears()), -1);
        BiteYears same = Check.with("dish 11111 first 0 at 0;dish 11111 first 0 at 0;dish 11111 first 0 at 0;dish 11111 first 0 at 0;dish 11111 first 0 at 0;"
            + "dish 11111 first 0 at 0;dish 11111 first 0 at 0;dish 11111 first 0 at 0;dish 11111 first 0 at 0;dish 11111 first 0 at 0", null);
        Check.life(same, "dish 11111 first 0 at 0;dish 11111 first 0 at 0");
        Check.due("twelve of day 0 are not parted", serve(same, 0, 1), 0);
    }

    private static int jars(BiteYears x, int k, int... tastes) {
        Check.tape(x, tastes);
        return x.jars(k);
    }

    private static void jars() {
        BiteYears x = Check.with("dish 00000;dish 00001 first 5 at 5;dish 00003;dish 99999", null);
        Check.due("no jar", jars(x, -1), 0);
        Check.due("no jar, the first", jars(x, 0), -1);
        Check.due("one jar", jars(x, -1, 0, 0, 0, 0, 2), 1);
        Check.due("of several the least", jars(x, 0, 0, 0, 0, 0, 2), 1);
        int[] two = {0, 0, 0, 0, 0, 0, 0, 0, 0, 0};
        Check.due("two alike", jars(x, -1, two), 1);
        Check.due("the first has the least", jars(x, 0, two), 0);
        Check.due("the second has the next", jars(x, 1, two), 1);
        Check.due("there is no third", jars(x, 2, two), -1);
        Check.due("below none", jars(x, -2, two), -1);
        int[] moved = {0, 0, 0, 0, 1, 0, 0, 0, 0, 2};
        Check.due("1 and 2: 0 and 1", jars(x, -1, moved), 1);
        Check.due("its first", jars(x, 0, moved), 1);
        Check.due("its second", jars(x, 1, moved), 2);
        int[] four = {9, 9, 9, 9, 8, 0, 0, 0, 0, 3, 0, 0, 0, 0, 1, 0, 0, 0, 0, 0};
        Check.due("four", jars(x, -1, four), 1);
        Check.due("its last", jars(x, 3, four), 0);
        int[] five = new int[25];
        Check.due("more jars than dishes", jars(x, -1, five), -1);
        Check.due("more jars than dishes, the first", jars(x, 0, five), -1);
        Check.due("one jar of no dishes", jars(new BiteYears(), -1, 0, 0, 0, 0, 0), -1);
        Check.due("no jar of no dishes", jars(new BiteYears(), -1), 0);
        Check.life(x, "dish 00000");
        Check.due("five", jars(x, -1, five), 45 + 3 + 1);
        int[] row = {0, 1, 2, 3, 4};
        for (int k = 0; k < 5; k++) {
            Check.due("five: the " + k + "-th", jars(x, k, five), row[k]);
        }
    }

    private static void jarsThrow() {
        BiteYears x = Check.with("dish 00000;dish 00001;dish 00003;dish 99999;dish 11111;dish 11111;dish 11111", null);
        Check.dueThrow("four bytes", ARGUMENT, () -> jars(x, -1, 0, 0, 0, 0));
        Check.due("the tape is used up", x.feed(0, 0, 0, 0, 0), 20);
        Check.dueThrow("a taste of 10", ARGUMENT, () -> jars(x, -1, 0, 0, 0, 0, 10));
        Check.dueThrow("a taste of 255", ARGUMENT, () -> jars(x, 7, 255, 0, 0, 0, 0));
        Check.dueThrow("six jars", ARGUMENT, () -> jars(x, -1, new int[30]));
        Check.due("tastes of 9", jars(x, 0, 9, 9, 9, 9, 9), 3);
    }

    private static void breaks() {
        BiteYears x = Check.with("dish 11111 first 1 at 1;dish 22222;dish 99999 first 1 at 1", "grief 1 if dish < 1;grief 50 if new;grief 7 if dish > 0 and dish < 2");
        Check.due("by one", x.breaks(0), 99);
        // 57 as a new one, then 7 each: 64, 71, 78, 85, 92, 99.
        Check.due("a new one", x.breaks(1), 7);
        Check.due("never", x.breaks(2), -1);
        Check.due("nothing stays", x.left(), 2);
        Check.dueThrow("breaks of none", INDEX, () -> x.breaks(3));
        Check.dueThrow("breaks of below", INDEX, () -> x.breaks(-1));
        Check.law(x, "grief 1;joy 1 if spoons < 1");
        Check.due("a hundred", x.breaks(0), 100);
        Check.law(x, "grief 1;joy 1 if spoons < 2");
        Check.due("a hundred and one", x.breaks(0), -1);
        Check.law(x, "grief 60");
        x.spoon(0);
        x.spoon(0);
        Check.due("now", x.breaks(0), 0);
        Check.dueThrow("now, of none", INDEX, () -> x.breaks(3));
    }

    private static void odds() {
        BiteYears x = Check.with("slip 50", null);
        Check.due("1 of 1", x.odds(1, 1), 5000);
        Check.due("1 of 2", x.odds(2, 1), 7500);
        Check.due("6 of 6, rounded down", x.odds(6, 6), 156);
        Check.due("0 of 6", x.odds(6, 0), 10000);
        Check.due("0 of 0", x.odds(0, 0), 10000);
        Check.due("1 of 0", x.odds(0, 1), 0);
        Check.due("3 of 2", x.odds(2, 3), 0);
        Check.due("2 of 3", x.odds(3, 2), 5000);
        Check.due("3 of 6", x.odds(6, 3), 6562);
        Check.life(x, "slip 0");
        Check.due("no slips", x.odds(6, 1), 0);
        Check.due("no slips, 0 of 6", x.odds(6, 0), 10000);
        Check.life(x, "slip 100");
        Check.due("slips alone", x.odds(6, 6), 10000);
        Check.life(x, "slip 1");
        Check.due("1 of 6 by 1", x.odds(6, 1), 585);
        Check.due("2 of 6 by 1", x.odds(6, 2), 14);
        Check.life(x, "slip 99");
        Check.due("6 of 6 by 99", x.odds(6, 6), 9414);
        Check.dueThrow("n 7", ARGUMENT, () -> x.odds(7, 0));
        Check.dueThrow("n -1", ARGUMENT, () -> x.odds(-1, 0));
        Check.dueThrow("k 7", ARGUMENT, () -> x.odds(0, 7));
        Check.dueThrow("k -1", ARGUMENT, () -> x.odds(0, -1));
    }

    private static void trialAndSpan() {
        BiteYears x = Check.with("dish 11111 first 10 at 1;dish 22222 first 20 at 1;dish 99999;wage 1", "grief 9;pay 4 if dish > 0");
        x.spoon(1);
        Check.due("no evening: sorrow", x.trial(0, false), 9);
        Check.due("no evening: paid", x.trial(0, true), 5);
        Check.due("no evening: span", x.span(0, false) * 100 + x.span(0, true), 505);
        // Three spoons, of dishes 1, 0 and 1: sorrow 9 and 27, by half; paid 5 and 5, 1, 5.
        Check.due("one evening: sorrow", x.trial(1, false), 18);
        Check.due("one evening: paid", x.trial(1, true), 16);
        int seed = 1;
        int least = 9999;
        int greatest = 0;
        for (seed = 1; seed <= 6; seed++) {
            BiteYears y = Check.with("dish 11111 first 10 at 1;dish 22222 first 20 at 1;dish 99999;wage 1", "grief 9;pay 4 if dish > 0");
            y.spoon(1);
            y.seed(seed);
            y.evenings(7);
            least = Math.min(least, y.count(14));
            greatest = Math.max(greatest, y.count(14));
            x.seed(seed);
            Check.due("trial from " + seed, x.trial(7, true), y.count(14));
            Check.due("sorrow from " + seed, x.trial(7, false), y.count(5));
        }
        Check.due("the least", x.span(7, false), least);
        Check.due("the greatest", x.span(7, true), greatest);
        Check.due("they differ", least < greatest, true);
        spanBySeeds();
        Check.due("nothing stays: seed", x.seed(1), 6);
        Check.due("nothing stays: log", x.count(15), 1);
        Check.due("nothing stays: acts", x.count(16), 1);
        Check.due("nothing stays: evening", x.count(7), 0);
        Check.due("nothing stays: new", x.left(), 4);
        Check.due("60 evenings are fine", x.trial(60, true) > 60, true);
        Check.due("60 evenings are fine", x.span(60, true) > 60, true);
        Check.dueThrow("trial 61", ARGUMENT, () -> x.trial(61, true));
        Check.dueThrow("trial -1", ARGUMENT, () -> x.trial(-1, false));
        Check.dueThrow("span 61", ARGUMENT, () -> x.span(61, true));
        Check.dueThrow("span -1", ARGUMENT, () -> x.span(-1, false));
    }

    /** The least and the greatest come from each of the seeds 1 to 6 in turn, and from no other one. */
    private static void spanBySeeds() {
        boolean[] leasts = new boolean[7];
        boolean[] greatests = new boolean[7];
        for (int n = 1; n <= 60; n++) {
            BiteYears x = Check.with("dish 11111 first 10 at 1;dish 22222 first 20 at 1;dish 99999;wage 1", "pay 40 if dish > 0;pay 19 if dish > 1");
            int[] paid = new int[7];
            int least = 1;
            int greatest = 1;
            for (int seed = 1; seed <= 6; seed++) {
                x.seed(seed);
                paid[seed] = x.trial(n, true);
                least = paid[seed] < paid[least] ? seed : least;
                greatest = paid[seed] > paid[greatest] ? seed : greatest;
            }
            leasts[least] = true;
            greatests[greatest] = true;
            Check.due("the least of " + n, x.span(n, false), paid[least]);
            Check.due("the greatest of " + n, x.span(n, true), paid[greatest]);
        }
        Check.due("seed 1 and seed 6 came", (leasts[1] || greatests[1]) && (leasts[6] || greatests[6]), true);
    }
}
