import java.util.NoSuchElementException;

/** Promises 7 to 10, 26 to 32, 34 to 37 and 39: what is known of dishes, and what they tell together. */
public final class DishesTest {
    private static final Class<?> INDEX = IndexOutOfBoundsException.class;
    private static final Class<?> ARGUMENT = IllegalArgumentException.class;
    private static final Class<?> ELEMENT = NoSuchElementException.class;

    public static void main(String[] args) {
        dish();
        calls();
        laws();
        farNearLeft();
        kitchenDatedGap();
        loverOldestSad();
        hosts();
        twinsNextWarlikeCompanyShare();
        Check.finish();
    }

    private static void dish() {
        BiteYears x = Check.with(Check.LIFE, null);
        Check.dueThrow("dish below", INDEX, () -> x.dish(-1, 0));
        Check.dueThrow("dish beyond", INDEX, () -> x.dish(6, 0));
        Check.dueThrow("dish and what are none", INDEX, () -> x.dish(6, 11));
        Check.dueThrow("what below", ELEMENT, () -> x.dish(0, -1));
        Check.dueThrow("what beyond", ELEMENT, () -> x.dish(0, 11));
        int[] due = {1, 2, 3, 4, 5, 120, 1, 3, 0, 0, 2};
        int[] dueNew = {1, 2, 3, 4, 4, -1, -1, -1, 0, 0, 2};
        for (int what = 0; what < due.length; what++) {
            Check.due("dish 0 what " + what, x.dish(0, what), due[what]);
            Check.due("dish 3 what " + what, x.dish(3, what), dueNew[what]);
        }
    }

    private static void calls() {
        BiteYears x = Check.with("dish 55555;dish 55557 first 30 at 1;dish 55553 first 20 at 2;dish 55556 first 10 at 3;reach 2", null);
        Check.due("the least far", x.dish(0, 8), 3);
        Check.due("itself", x.dish(1, 8), 1);
        x.forget(3);
        Check.due("of several the least", x.dish(0, 8), 1);
        Check.due("by reach at most", x.dish(3, 8), 1);
        x.reach(1);
        Check.due("none within reach", x.dish(0, 8), -1);
        x.reach(0);
        x.had(0, 5, 5, 5);
        Check.due("itself without reach", x.dish(0, 8), 0);
        BiteYears same = Check.with("dish 11111;dish 11111;dish 11111 first 7 at 0;reach 0", null);
        Check.due("far by nothing", same.dish(0, 8), 2);
        same.forget(2);
        Check.due("none had", same.dish(0, 8), -1);
    }

    /** What each law makes of served dishes: what they turn by, and what they pay. */
    private static void laws() {
        dueTurns("grief 5", 5, 5, 5);
        dueTurns("grief 5;joy 7;grief 1", -1, -1, -1);
        dueTurns("grief 1 if new", 0, 1, 1);
        dueTurns("grief 1 if war", 1, 1, 0);
        dueTurns("grief 1 if alone", 0, 0, 0);
        dueTurns("grief 1 if not alone", 1, 1, 1);
        dueTurns("grief 1 if dish > 0", 0, 1, 1);
        dueTurns("grief 1 if dish < 2;grief 10 if dish < 1", 11, 1, 0);
        dueTurns("grief 1 if day < 241", 1, 1, 0);
        dueTurns("grief 1 if day > 599", 0, 0, 1);
        dueTurns("grief 1 if day > 600", 0, 0, 0);
        dueTurns("grief 1 if place < 5 ; grief 2 if place > 4", 1, 1, 2);
        dueTurns("grief 1 if company > 8 ; grief 2 if company < 4 and company > 2", 2, 2, 1);
        dueTurns("grief 1 if company > 8 and company < 10", 0, 0, 1);
        dueTurns("grief 1 if place > 0 and place < 2", 1, 1, 0);
        dueTurns("grief 1 if place > 4 and place < 6", 0, 0, 1);
        dueTurns("grief 1 if not (1 < 2 and not new)", 0, 1, 1);
        dueTurns("grief 1 if 1 < 2 and not new or 2 < 1 and not new", 1, 0, 0);
        dueTurns("grief 1 if 2 < 1 or not (new or not war)", 1, 0, 0);
        dueTurns("grief 1 if day + 999 > 998 and day < 999", 1, 1, 1);
        dueTurns("grief 1 if not alone and company > 8", 0, 0, 1);
        dueTurns("grief 1 if sorrow > 0", 0, 0, 0);
        dueTurns("grief 1 if sorrow + 1 > 0 + 0", 1, 1, 1);
        dueTurns("grief 1 if spoons < 1", 1, 1, 1);
        dueTurns("grief 1 if new or war and dish > 0", 0, 1, 1);
        dueTurns("grief 1 if war and dish > 0 or new", 0, 1, 1);
        dueTurns("grief 1 if (war or new) and dish < 1", 1, 0, 0);
        dueTurns("grief 1 if war or new and dish < 1", 1, 1, 0);
        dueTurns("grief 1 if not war and new", 0, 0, 1);
        dueTurns("grief 1 if not (war and new)", 1, 0, 1);
        dueTurns("grief 1 if not not war", 1, 1, 0);
        dueTurns("grief 1 if not (not (not (war or 2 < 1) and dish < 9) or new)", 0, 0, 0);
        dueTurns("grief 1 if dish + dish + 1 > 2 + 0 and dish + 1 < 3", 0, 1, 0);
        dueTurns("grief 3 if 1 < 2;joy 4 if 2 < 1;joy 1 if 1 > 0;pay 60", 2, 2, 2);
        dueTurns("grief 60;grief 60;grief 60;grief 60;grief 60;grief 60;grief 60;grief 60;grief 60;grief 60;grief 60;grief 60", 720, 720, 720);

        BiteYears x = Check.with("dish 11111;wage 50", "pay 5;pay 7 if new;pay 9 if war;grief 3");
        Check.due("pays", x.dish(0, 10), 62);
        x.had(0, 0, 0, -1);
        Check.due("in the war from 0 to 0, both too", x.dish(0, 10), 64);
        Check.law(x, "grief 1 if alone and not not alone;grief 2 if not alone");
        Check.due("alone", x.dish(0, 9), 1);
        Check.law(x, "");
        Check.due("turns without lines", x.dish(0, 9), 0);
        Check.due("pays without lines", x.dish(0, 10), 50);
        Check.law(x, "grief 4 if spoons > 0;joy 3 if sorrow > 4");
        x.spoon(0);
        Check.due("spoons tell", x.dish(0, 9), 4);
        x.spoon(0);
        x.spoon(0);
        Check.due("sorrow tells", x.dish(0, 9), 1);
    }

    /** Dish 0 was had in the war with 3, dish 1 is new and calls it up, dish 2 is new and calls up nothing. */
    private static void dueTurns(String law, int had, int near, int lonely) {
        BiteYears x = Check.with("dish 12345 first 240 at 1 with 3;dish 12344;dish 99999;war 240 to 310;today 600;house 5;wage 2", law);
        Check.due(law + ": dish 0", x.dish(0, 9), had);
        Check.due(law + ": dish 1", x.dish(1, 9), near);
        Check.due(law + ": dish 2", x.dish(2, 9), lonely);
    }

    private static void farNearLeft() {
        BiteYears x = Check.with(Check.LIFE, null);
        Check.due("far", x.far(0, 2), 30);
        Check.due("far in the other row", x.far(2, 0), 30);
        Check.due("far from itself", x.far(3, 3), 0);
        Check.due("far both ways of tastes", x.far(5, 0), 31);
        Check.dueThrow("far of none", INDEX, () -> x.far(6, 0));
        Check.dueThrow("far from none", INDEX, () -> x.far(0, 6));
        Check.dueThrow("far from below", INDEX, () -> x.far(0, -1));
        Check.dueThrow("near of none", INDEX, () -> x.near(6));
        Check.dueThrow("near of below", INDEX, () -> x.near(-1));
        Check.due("near", x.near(0), 2 | 8);
        x.reach(1);
        Check.due("near 1", x.near(3), 1);
        x.reach(2);
        Check.due("near 2", x.near(3), 3);
        x.reach(45);
        Check.due("near all others", x.near(2), 63 - 4);
        Check.due("left", x.left(), 8 | 16);
        x.spoon(3);
        Check.due("left behind a spoon", x.left(), 16);
        x.forget(0);
        Check.due("left behind forgetting", x.left(), 17);
        Check.due("left without dishes", new BiteYears().left(), 0);
    }

    private static void kitchenDatedGap() {
        BiteYears x = Check.with(Check.LIFE, null);
        Check.due("kitchen 1", x.kitchen(1), 5);
        Check.due("kitchen 0: new dishes are nowhere", x.kitchen(0), 0);
        Check.due("kitchen 7", x.kitchen(7), 0);
        Check.dueThrow("kitchen 8", INDEX, () -> x.kitchen(8));
        Check.dueThrow("kitchen -1", INDEX, () -> x.kitchen(-1));
        Check.due("dated", x.dated(1 | 2), 250);
        Check.due("dated in any row", x.dated(4 | 32), 305);
        Check.due("dated with a new one", x.dated(1 | 8), -1);
        Check.due("dated of none", x.dated(0), -1);
        Check.due("bits of none", x.dated(64 | 1 << 31), -1);
        Check.due("bits of none beside some", x.dated(64 | 1 << 31 | 1), 120);
        Check.due("gap", x.gap(), 130);
        x.had(0, 9999, 0, -1);
        Check.due("gap at the end", x.gap(), 9999 - 305);
        x.forget(1);
        x.forget(2);
        x.forget(0);
        Check.due("gap of one", x.gap(), 0);
        x.had(4, 120, 0, -1);
        Check.due("gap of the same day", x.gap(), 0);
        x.had(3, 0, 0, -1);
        Check.due("gap from day 0", x.gap(), 120);
        Check.due("gap from the first dish", Check.with("dish 11111 first 5 at 0;dish 11111 first 9 at 0", null).gap(), 4);
        Check.due("gap of none", new BiteYears().gap(), 0);
    }

    private static void loverOldestSad() {
        BiteYears x = Check.with(Check.LIFE, "grief 2 if war;joy 1");
        Check.due("lover", x.lover(), 3);
        x.forget(2);
        Check.due("of several the least", x.lover(), 2);
        x.forget(5);
        x.forget(0);
        Check.due("with nobody", x.lover(), -1);
        x.had(5, 1, 0, 0);
        Check.due("lover 0", x.lover(), 0);
        x.had(4, 1, 0, 7);
        x.had(3, 1, 0, 7);
        Check.due("lover 7", x.lover(), 7);
        BiteYears none = new BiteYears();
        Check.due("lover of none", none.lover(), -1);
        Check.due("oldest of none", none.oldest(), -1);
        Check.due("sad of none", none.sad(), -1);
        BiteYears y = Check.with(Check.LIFE, "grief 2 if war;joy 1");
        Check.due("oldest: of several the least", y.oldest(), 0);
        y.had(4, 119, 0, -1);
        Check.due("oldest", y.oldest(), 4);
        Check.due("sad: of several the least", y.sad(), 1);
        y.had(1, 5, 0, -1);
        Check.due("sad", y.sad(), 2);
        y.had(2, 5, 0, -1);
        Check.due("sad of all alike, below 0", y.sad(), 0);
        Check.law(y, "joy 5;grief 3 if new");
        Check.due("sad of a new one", y.sad(), 3);
    }

    private static void hosts() {
        BiteYears x = Check.with(Check.LIFE, null);
        Check.due("near hosts of the same pay", x.hosts(0, 1), 1 | 8);
        Check.due("far hosts of the same pay", x.hosts(0, 2), 2 | 4);
        Check.dueThrow("hosts of none", INDEX, () -> x.hosts(6, 0));
        Check.dueThrow("hosts and none", INDEX, () -> x.hosts(0, 6));
        Check.dueThrow("hosts of none twice", INDEX, () -> x.hosts(-1, -1));
        Check.dueThrow("hosts of one", ARGUMENT, () -> x.hosts(1, 1));
        Check.law(x, "pay 3 if dish < 1");
        Check.due("5 and 2, near: 2 >= 0, 1 < 3", x.hosts(0, 1), 1);
        Check.due("in the other row", x.hosts(1, 0), 8);
        Check.due("5 and 2, far: 2 = 2 and 2 = 2", x.hosts(0, 2), 1 | 2 | 4);
        Check.law(x, "pay 4 if dish < 1");
        Check.due("6 and 2, far: 3 > 2", x.hosts(0, 2), 1);
        Check.law(x, "pay 1 if dish < 1;pay 4 if dish > 0");
        Check.due("3 and 6, near: 1 < 4, 3 > 1", x.hosts(0, 1), 8);
        Check.due("3 and 6, far: 1 < 6, 3 = 3", x.hosts(0, 2), 2 | 4 | 8);
        Check.law(x, "pay 1 if dish < 1;pay 2 if dish > 0");
        Check.due("3 and 4, near: 1 < 2, 2 > 1", x.hosts(0, 1), 8);
        x.reach(1);
        Check.due("3 and 4, near by reach at most", x.hosts(0, 1), 8);
        x.reach(0);
        Check.due("3 and 4, not near any more", x.hosts(0, 1), 2 | 4);
        BiteYears poor = Check.with("dish 11111;dish 11111;wage 0", null);
        Check.due("without pay, near", poor.hosts(0, 1), 9);
    }

    private static void twinsNextWarlikeCompanyShare() {
        BiteYears x = Check.with(Check.LIFE, null);
        Check.due("twins", x.twins(), 0);
        Check.life(x, "dish 00000;dish 00000;dish 12345 first 601 at 1;dish 54321 first 601 at 1");
        Check.due("twins: three make three pairs", x.twins(), 4);
        Check.due("next", x.next(), 8);
        x.spoon(1);
        Check.due("next is later than where she is", x.next(), 2);
        x.spoon(8);
        Check.due("next of none", x.next(), -1);
        Check.due("warlike", x.warlike(), 6);
        x.had(0, 240, 0, -1);
        x.had(1, 310, 0, -1);
        x.had(2, 239, 0, -1);
        x.had(5, 311, 0, -1);
        Check.due("both ends are in the war", x.warlike(), 3);
        BiteYears y = Check.with(Check.LIFE, null);
        Check.due("company", y.company(3), 5);
        Check.due("company 0", y.company(0), 0);
        Check.due("company 7", y.company(7), 0);
        Check.dueThrow("company 8", ARGUMENT, () -> y.company(8));
        Check.dueThrow("company of nobody", ARGUMENT, () -> y.company(-1));
        Check.due("share", y.share(1), 50);
        Check.due("share 0", y.share(0), 0);
        y.forget(5);
        Check.due("share, rounded down", y.share(1), 66);
        Check.due("share of one alone", Check.with("dish 11111 first 5 at 0", null).share(0), 100);
        Check.dueThrow("share 8", INDEX, () -> y.share(8));
        Check.dueThrow("share -1", INDEX, () -> y.share(-1));
        y.forget(0);
        y.forget(1);
        y.forget(2);
        Check.due("share without", y.share(1), 0);
        Check.due("warlike without", y.warlike(), 0);
        Check.due("next without", y.next(), -1);
    }
}
