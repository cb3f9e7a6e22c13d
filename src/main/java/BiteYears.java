import java.util.NoSuchElementException;

/** An old lady in whose mouth every dish tastes of the day when she had it first. */
public final class BiteYears {
    public static final int NONE = -1;

    private static final int MOST_TAPE = 400;
    private static final int BYTES_FED = 20;
    private static final int MOST_TEXTS = 12;
    private static final int MOST_DISHES = 12;
    private static final int TASTES = 5;
    private static final int MOST_TASTE = 9;
    private static final int LAST_DAY = 9999;
    private static final int LAST_PLACE = 7;
    private static final int LAST_COMPANY = 7;
    private static final int MOST_SORROW = 99;
    private static final int MOST_REACH = 45;
    private static final int MOST_EVENING = 9999;
    private static final int MOST_PAID = 9999;
    private static final int MOST_EVENINGS = 60;
    private static final int MOST_MENU = 40;
    private static final int MOST_PAIR_BYTES = 40;
    private static final int MOST_LOOKS = 20;
    private static final int LAST_AGE = 99;
    private static final int AGE_BITS = 1023;
    private static final int AGES_ASKED = 10;
    private static final int MOST_BREAKS = 100;
    private static final int MOST_SLIPS = 6;
    private static final int SPAN_SEEDS = 6;
    private static final int NO_ROW = -2;

    private final int[] tape = new int[MOST_TAPE];
    private int tapeLength = 0;
    private int fault = NONE;
    private final Lady lady = new Lady();
    private final Law law = new Law();
    private final Log log = new Log();
    private final Acts acts = new Acts();
    private final Lady imageLady = new Lady();
    private final Law imageLaw = new Law();
    private final Log imageLog = new Log();
    private boolean imageKept = false;
    private final Lady tried = new Lady();
    private final Served served = new Served();
    private final LifeText lifeText = new LifeText();
    private final LawText lawText = new LawText();
    private final Orders orders = new Orders();
    private final Jars shelf = new Jars();

    public BiteYears() {
    }

    // ---- the tape and the texts ----

    public int feed(int a, int b, int c, int d, int e) {
        if (tapeLength > MOST_TAPE - BYTES_FED) {
            return NONE;
        }
        putBytes(a);
        putBytes(b);
        putBytes(c);
        putBytes(d);
        putBytes(e);
        return tapeLength;
    }

    private void putBytes(int number) {
        for (int shift = 24; shift >= 0; shift -= 8) {
            if (tapeLength < MOST_TAPE) {
                tape[tapeLength] = number >>> shift & 255;
                tapeLength++;
            }
        }
    }

    public boolean end(int n) {
        if (n < 0 || n > tapeLength) {
            return false;
        }
        tapeLength = n;
        return true;
    }

    /** How many bytes were told; they stay readable in the row till the next feed. */
    private int takeTape() {
        int told = tapeLength;
        tapeLength = 0;
        return told;
    }

    private boolean toldAtMost(int told, int most) {
        for (int i = 0; i < told && i < MOST_TAPE; i++) {
            if (tape[i] > most) {
                return false;
            }
        }
        return true;
    }

    public int life() throws IllegalArgumentException, UnsupportedOperationException {
        lifeText.draft.copy(lady);
        fault = lifeText.firstWrong(tape, takeTape(), LifeText.MOST_LINES);
        if (fault != NONE) {
            throw new IllegalArgumentException("the text of the life is wrong");
        }
        if (lady.texts >= MOST_TEXTS) {
            throw new UnsupportedOperationException("there are twelve texts of the life");
        }
        lady.copy(lifeText.draft);
        lady.texts++;
        acts.clear();
        return lady.texts;
    }

    public int law() throws IllegalArgumentException {
        lawText.draft.clear();
        fault = lawText.firstWrong(tape, takeTape(), Law.MOST_LINES);
        if (fault != NONE) {
            throw new IllegalArgumentException("the text of the law is wrong");
        }
        law.copy(lawText.draft);
        acts.clear();
        return law.lines;
    }

    public int fault() {
        return fault;
    }

    // ---- what a dish is ----

    public int dish(int dish, int what) throws IndexOutOfBoundsException, NoSuchElementException {
        if (!lady.dishes.has(dish)) {
            throw new IndexOutOfBoundsException("no such dish");
        }
        if (what < 0 || what > 10) {
            throw new NoSuchElementException("nothing such is known of a dish");
        }
        if (what < TASTES) {
            return lady.dishes.tastes[dish * TASTES + what];
        }
        switch (what) {
            case 5:
                return lady.dishes.first[dish];
            case 6:
                return lady.dishes.place[dish];
            case 7:
                return lady.dishes.company[dish];
            case 8:
                return lady.dishes.calledUp(dish, lady.reach);
            case 9:
                return turnsNow(dish);
            default:
                return paysNow(dish);
        }
    }

    private int turnsNow(int dish) {
        served.put(lady, dish);
        law.weigh(served);
        return served.turns;
    }

    private int paysNow(int dish) {
        served.put(lady, dish);
        law.weigh(served);
        return served.pays;
    }

    public int far(int dish, int other) throws IndexOutOfBoundsException {
        if (!lady.dishes.has(dish) || !lady.dishes.has(other)) {
            throw new IndexOutOfBoundsException("no such dish");
        }
        return lady.dishes.distance(dish, other);
    }

    public int near(int dish) throws IndexOutOfBoundsException {
        if (!lady.dishes.has(dish)) {
            throw new IndexOutOfBoundsException("no such dish");
        }
        int bits = 0;
        for (int other = 0; other < lady.dishes.count; other++) {
            if (other != dish && lady.dishes.distance(dish, other) <= lady.reach) {
                bits |= 1 << other;
            }
        }
        return bits;
    }

    public int left() {
        return lady.dishes.all() & ~lady.dishes.allHad();
    }

    // ---- the acts ----

    public int spoon(int dish) throws IndexOutOfBoundsException, IllegalStateException {
        if (!lady.dishes.has(dish)) {
            throw new IndexOutOfBoundsException("no such dish");
        }
        if (lady.sorrow >= MOST_SORROW) {
            throw new IllegalStateException("she takes no spoon any more");
        }
        acts.remember(lady, log);
        lady.bite(dish, law, served);
        log.write(lady.evening, dish, served.called, lady.at);
        return lady.at;
    }

    public int crust() {
        acts.remember(lady, log);
        lady.comeBack();
        return lady.today;
    }

    public int had(int dish, int day, int place, int company)
            throws IndexOutOfBoundsException, IllegalArgumentException {
        if (!lady.dishes.has(dish) || !isPlace(place)) {
            throw new IndexOutOfBoundsException("no such dish, or no such place");
        }
        if (day < 0 || day > LAST_DAY || company < NONE || company > LAST_COMPANY) {
            throw new IllegalArgumentException("no such day, or no such company");
        }
        acts.remember(lady, log);
        int before = lady.dishes.first[dish];
        lady.dishes.tell(dish, day, place, company);
        return before;
    }

    public int forget(int dish) throws IndexOutOfBoundsException, IllegalStateException {
        if (!lady.dishes.has(dish)) {
            throw new IndexOutOfBoundsException("no such dish");
        }
        if (!lady.dishes.isHad(dish)) {
            throw new IllegalStateException("the dish is new");
        }
        acts.remember(lady, log);
        int before = lady.dishes.first[dish];
        lady.dishes.tell(dish, NONE, NONE, NONE);
        return before;
    }

    public int reach(int n) throws IllegalArgumentException {
        if (n < 0 || n > MOST_REACH) {
            throw new IllegalArgumentException("no such reach");
        }
        acts.remember(lady, log);
        int before = lady.reach;
        lady.reach = n;
        return before;
    }

    public int house(int place) throws IndexOutOfBoundsException {
        if (!isPlace(place)) {
            throw new IndexOutOfBoundsException("no such place");
        }
        acts.remember(lady, log);
        int before = lady.house;
        lady.house = place;
        return before;
    }

    private static boolean isPlace(int place) {
        return place >= 0 && place <= LAST_PLACE;
    }

    public int look() {
        acts.remember(lady, log);
        int slipped = lady.draw() % 100 < lady.slip ? 1 : 0;
        return lady.at / 10 + slipped;
    }

    public int evenings(int n) throws IllegalArgumentException {
        if (n < 1 || n > MOST_EVENINGS) {
            throw new IllegalArgumentException("no such number of evenings");
        }
        acts.remember(lady, log);
        int taken = 0;
        for (int i = 0; i < n; i++) {
            taken += passEvening(lady, true);
        }
        return taken;
    }

    private int passEvening(Lady one, boolean logged) {
        int taken = 0;
        int spoons = one.drawSpoons();
        for (int i = 0; i < spoons; i++) {
            int dish = one.drawDish();
            if (one.takes(dish)) {
                one.bite(dish, law, served);
                taken++;
                if (logged) {
                    log.write(one.evening, dish, served.called, one.at);
                }
            }
        }
        one.comeBack();
        return taken;
    }

    // ---- what would be ----

    public int menu(int what) throws IllegalArgumentException, NoSuchElementException {
        int told = takeTape();
        if (told > MOST_MENU || !toldAtMost(told, lady.dishes.count - 1)) {
            throw new IllegalArgumentException("the tape is no menu");
        }
        if (what < 0 || what > 3) {
            throw new NoSuchElementException("nothing such is known of a menu");
        }
        tried.copy(lady);
        int taken = 0;
        int pay = 0;
        for (int i = 0; i < told && i < MOST_TAPE; i++) {
            if (tried.takes(tape[i])) {
                tried.bite(tape[i], law, served);
                pay += served.pays;
                taken++;
            }
        }
        switch (what) {
            case 0:
                return tried.at;
            case 1:
                return tried.sorrow;
            case 2:
                return taken;
            default:
                return pay;
        }
    }

    /** A dish has one age alone, so each age needs one dish, and the least of its dishes is the best. */
    public int fewest(int must, int not) throws IllegalArgumentException {
        if (must < 0 || must > AGE_BITS || not < 0 || not > AGE_BITS) {
            throw new IllegalArgumentException("no such ages");
        }
        if ((must & not) != 0) {
            return NONE;
        }
        int bits = 0;
        for (int age = 0; age < AGES_ASKED; age++) {
            if ((must >> age & 1) != 0) {
                int dish = lady.dishes.leastOfAge(age);
                if (dish == NONE) {
                    return NONE;
                }
                bits |= 1 << dish;
            }
        }
        return bits;
    }

    public int order(int dishes, int k) throws IllegalArgumentException {
        int set = dishes & lady.dishes.all();
        if (Integer.bitCount(set) > Orders.MOST) {
            throw new IllegalArgumentException("more than six dishes");
        }
        orders.search(lady, set, law, served);
        return k == NONE ? orders.least : orders.nth(k);
    }

    public int he() throws IllegalArgumentException {
        int told = takeTape();
        if (told > MOST_PAIR_BYTES || told % 2 != 0 || !arePairs(told)) {
            throw new IllegalArgumentException("the tape is no row of ages and places");
        }
        int bits = (1 << LAST_COMPANY + 1) - 1;
        for (int i = 0; i < told && i + 1 < MOST_TAPE; i += 2) {
            bits &= lady.dishes.companyIn(tape[i], tape[i + 1]);
        }
        return bits;
    }

    private boolean arePairs(int told) {
        for (int i = 0; i < told && i + 1 < MOST_TAPE; i += 2) {
            if (tape[i] > LAST_AGE || !isPlace(tape[i + 1])) {
                return false;
            }
        }
        return true;
    }

    public int unknown() throws IllegalArgumentException {
        int told = takeTape();
        if (told > MOST_LOOKS) {
            throw new IllegalArgumentException("the tape is no row of looks");
        }
        return fitting(told);
    }

    private int fitting(int looks) {
        int bits = lady.dishes.allHad();
        for (int i = 0; i < looks && i < MOST_TAPE; i++) {
            bits &= lady.dishes.inDecade(tape[i]) | lady.dishes.inDecade(tape[i] - 1);
        }
        return bits;
    }

    public int serve() throws IllegalArgumentException {
        int told = takeTape();
        if (told > MOST_LOOKS) {
            throw new IllegalArgumentException("the tape is no row of looks");
        }
        int fit = fitting(told);
        if (Integer.bitCount(fit) < 2) {
            return NONE;
        }
        int best = NONE;
        int least = MOST_DISHES + 1;
        for (int dish = 0; dish < lady.dishes.count; dish++) {
            int part = greaterPart(dish, fit);
            if (lady.dishes.isHad(dish) && part < least) {
                least = part;
                best = dish;
            }
        }
        return best;
    }

    private int greaterPart(int dish, int fit) {
        int notLater = Integer.bitCount(fit & lady.dishes.firstIn(0, lady.dishes.first[dish]));
        return Math.max(notLater, Integer.bitCount(fit) - notLater);
    }

    public int jars(int k) throws IllegalArgumentException {
        int told = takeTape();
        if (told > Jars.MOST * TASTES || told % TASTES != 0 || !toldAtMost(told, MOST_TASTE)) {
            throw new IllegalArgumentException("the tape is no row of jars");
        }
        shelf.search(tape, told / TASTES, lady.dishes);
        return k == NONE ? shelf.least : shelf.nth(k);
    }

    // ---- what the dishes tell ----

    public int kitchen(int place) throws IndexOutOfBoundsException {
        if (!isPlace(place)) {
            throw new IndexOutOfBoundsException("no such place");
        }
        return lady.dishes.hadAt(place);
    }

    public int dated(int dishes) {
        int set = dishes & lady.dishes.all();
        int latest = NONE;
        for (int dish = 0; dish < lady.dishes.count; dish++) {
            if ((set >> dish & 1) != 0) {
                if (!lady.dishes.isHad(dish)) {
                    return NONE;
                }
                latest = Math.max(latest, lady.dishes.first[dish]);
            }
        }
        return latest;
    }

    public int gap() {
        int greatest = 0;
        for (int dish = 0; dish < lady.dishes.count; dish++) {
            if (lady.dishes.isHad(dish)) {
                int later = lady.dishes.earliestBehind(lady.dishes.first[dish]);
                if (later != NONE) {
                    greatest = Math.max(greatest, lady.dishes.first[later] - lady.dishes.first[dish]);
                }
            }
        }
        return greatest;
    }

    public int lover() {
        int best = NONE;
        int most = 0;
        for (int one = 0; one <= LAST_COMPANY; one++) {
            int many = Integer.bitCount(lady.dishes.hadWith(one));
            if (many > most) {
                most = many;
                best = one;
            }
        }
        return best;
    }

    public int oldest() {
        return lady.dishes.earliestBehind(NONE);
    }

    public int sad() {
        int best = NONE;
        int most = 0;
        for (int dish = 0; dish < lady.dishes.count; dish++) {
            int turns = turnsNow(dish);
            if (best == NONE || turns > most) {
                most = turns;
                best = dish;
            }
        }
        return best;
    }

    public int hosts(int a, int b) throws IndexOutOfBoundsException, IllegalArgumentException {
        if (!lady.dishes.has(a) || !lady.dishes.has(b)) {
            throw new IndexOutOfBoundsException("no such dish");
        }
        if (a == b) {
            throw new IllegalArgumentException("both dishes are one");
        }
        int less = lady.dishes.distance(a, b) <= lady.reach ? 2 : 0;
        int payA = paysNow(a);
        int payB = paysNow(b);
        boolean keepsA = payA / 2 >= payB - less;
        boolean keepsB = payB / 2 >= payA - less;
        boolean keepsApart = payA - less >= payB / 2 && payB - less >= payA / 2;
        return (keepsA ? 1 : 0) | (keepsApart ? 2 | 4 : 0) | (keepsB ? 8 : 0);
    }

    public int breaks(int dish) throws IndexOutOfBoundsException {
        if (!lady.dishes.has(dish)) {
            throw new IndexOutOfBoundsException("no such dish");
        }
        tried.copy(lady);
        for (int taken = 0; taken < MOST_BREAKS; taken++) {
            if (!tried.takes(dish)) {
                return taken;
            }
            tried.bite(dish, law, served);
        }
        return tried.takes(dish) ? NONE : MOST_BREAKS;
    }

    public int twins() {
        int pairs = 0;
        for (int dish = 0; dish < lady.dishes.count; dish++) {
            for (int other = dish + 1; other < lady.dishes.count; other++) {
                if (lady.dishes.distance(dish, other) == 0) {
                    pairs++;
                }
            }
        }
        return pairs;
    }

    public int next() {
        return lady.dishes.earliestBehind(lady.at);
    }

    public int warlike() {
        return lady.dishes.firstIn(lady.warFrom, lady.warTo);
    }

    public int company(int one) throws IllegalArgumentException {
        if (one < 0 || one > LAST_COMPANY) {
            throw new IllegalArgumentException("no such company");
        }
        return lady.dishes.hadWith(one);
    }

    public int odds(int n, int k) throws IllegalArgumentException {
        if (n < 0 || n > MOST_SLIPS || k < 0 || k > MOST_SLIPS) {
            throw new IllegalArgumentException("no such number of looks or slips");
        }
        long parts = slipParts(n, k, lady.slip);
        // A look has two figures, the answer four.
        for (int looks = n; looks < 2; looks++) {
            parts *= 100;
        }
        for (int looks = n; looks > 2; looks--) {
            parts /= 100;
        }
        return (int) parts;
    }

    /** In how many of 100 to the power of looks there are so many slips at least. */
    private static long slipParts(int looks, int slips, int slip) {
        if (looks <= 0) {
            return slips <= 0 ? 1 : 0;
        }
        return slip * slipParts(looks - 1, slips - 1, slip) + (100 - slip) * slipParts(looks - 1, slips, slip);
    }

    public int share(int place) throws IndexOutOfBoundsException {
        if (!isPlace(place)) {
            throw new IndexOutOfBoundsException("no such place");
        }
        int had = Integer.bitCount(lady.dishes.allHad());
        return had > 0 ? Integer.bitCount(lady.dishes.hadAt(place)) * 100 / had : 0;
    }

    public int trial(int n, boolean paid) throws IllegalArgumentException {
        if (n < 0 || n > MOST_EVENINGS) {
            throw new IllegalArgumentException("no such number of evenings");
        }
        tryEvenings(n, lady.seed);
        return paid ? tried.paid : tried.sorrow;
    }

    private void tryEvenings(int n, int seed) {
        tried.copy(lady);
        tried.seed = seed;
        for (int i = 0; i < n; i++) {
            passEvening(tried, false);
        }
    }

    public int span(int n, boolean most) throws IllegalArgumentException {
        if (n < 0 || n > MOST_EVENINGS) {
            throw new IllegalArgumentException("no such number of evenings");
        }
        int least = MOST_PAID;
        int greatest = 0;
        for (int seed = 1; seed <= SPAN_SEEDS; seed++) {
            tryEvenings(n, seed);
            least = Math.min(least, tried.paid);
            greatest = Math.max(greatest, tried.paid);
        }
        return most ? greatest : least;
    }

    // ---- what was ----

    public int led(int dish, boolean evening) throws IndexOutOfBoundsException {
        if (!lady.dishes.has(dish)) {
            throw new IndexOutOfBoundsException("no such dish");
        }
        return evening ? log.latestEvening(dish) : log.rowsOf(dish);
    }

    public int log(int ago, int what) throws NoSuchElementException {
        if (what < 0 || what > 3) {
            throw new NoSuchElementException("nothing such stands in the log");
        }
        return log.read(ago, what);
    }

    public int seed(int n) {
        int before = lady.seed;
        lady.seed = n;
        return before;
    }

    public boolean undo() {
        return acts.recall(lady, log);
    }

    public void image() {
        imageLady.copy(lady);
        imageLaw.copy(law);
        imageLog.copy(log);
        imageKept = true;
    }

    public boolean back() {
        if (!imageKept) {
            return false;
        }
        lady.copy(imageLady);
        law.copy(imageLaw);
        log.copy(imageLog);
        acts.clear();
        return true;
    }

    public int count(int what) {
        switch (what) {
            case 0:
                return lady.dishes.count;
            case 1:
                return lady.texts;
            case 2:
                return law.lines;
            case 3:
                return lady.today;
            case 4:
                return lady.at;
            case 5:
                return lady.sorrow;
            case 6:
                return lady.spoons;
            case 7:
                return lady.evening;
            case 8:
                return lady.reach;
            case 9:
                return lady.warFrom;
            case 10:
                return lady.warTo;
            case 11:
                return lady.slip;
            case 12:
                return lady.house;
            case 13:
                return lady.wage;
            case 14:
                return lady.paid;
            case 15:
                return log.rows;
            case 16:
                return acts.kept;
            default:
                return NONE;
        }
    }

    /** The dishes: their tastes, and when, where and with whom they were had first. */
    private static final class Dishes {
        int count = 0;
        final int[] tastes = new int[MOST_DISHES * TASTES];
        /** NONE: the dish is new. */
        final int[] first = new int[MOST_DISHES];
        final int[] place = new int[MOST_DISHES];
        final int[] company = new int[MOST_DISHES];

        boolean has(int dish) {
            return dish >= 0 && dish < count;
        }

        boolean isHad(int dish) {
            return has(dish) && first[dish] != NONE;
        }

        int all() {
            return (1 << count) - 1;
        }

        int allHad() {
            return firstIn(0, LAST_DAY);
        }

        int distance(int dish, int other) {
            int sum = 0;
            for (int i = 0; i < TASTES; i++) {
                int by = tastes[dish * TASTES + i] - tastes[other * TASTES + i];
                sum += by < 0 ? -by : by;
            }
            return sum;
        }

        int calledUp(int dish, int reach) {
            if (isHad(dish)) {
                return dish;
            }
            int best = NONE;
            int least = reach + 1;
            for (int other = 0; other < count; other++) {
                if (first[other] != NONE) {
                    int far = distance(dish, other);
                    if (far < least) {
                        least = far;
                        best = other;
                    }
                }
            }
            return best;
        }

        /** The had dish of the least first day that is later than the told one. */
        int earliestBehind(int day) {
            int best = NONE;
            for (int dish = 0; dish < count; dish++) {
                if (first[dish] > day && (best == NONE || first[dish] < first[best])) {
                    best = dish;
                }
            }
            return best;
        }

        int firstIn(int from, int to) {
            int bits = 0;
            for (int dish = 0; dish < count; dish++) {
                if (first[dish] != NONE && first[dish] >= from && first[dish] <= to) {
                    bits |= 1 << dish;
                }
            }
            return bits;
        }

        int inDecade(int decade) {
            return decade < 0 ? 0 : firstIn(decade * 10, decade * 10 + 9);
        }

        int inAge(int age) {
            return firstIn(age * 100, age * 100 + 99);
        }

        int leastOfAge(int age) {
            int bits = inAge(age);
            for (int dish = 0; dish < count; dish++) {
                if ((bits >> dish & 1) != 0) {
                    return dish;
                }
            }
            return NONE;
        }

        int hadAt(int where) {
            int bits = 0;
            for (int dish = 0; dish < count; dish++) {
                if (first[dish] != NONE && place[dish] == where) {
                    bits |= 1 << dish;
                }
            }
            return bits;
        }

        int hadWith(int one) {
            int bits = 0;
            for (int dish = 0; dish < count; dish++) {
                if (first[dish] != NONE && company[dish] == one) {
                    bits |= 1 << dish;
                }
            }
            return bits;
        }

        int companyIn(int age, int where) {
            int dishes = inAge(age) & hadAt(where);
            int bits = 0;
            for (int dish = 0; dish < count; dish++) {
                if ((dishes >> dish & 1) != 0 && company[dish] != NONE) {
                    bits |= 1 << company[dish];
                }
            }
            return bits;
        }

        void tell(int dish, int day, int where, int one) {
            if (has(dish)) {
                first[dish] = day;
                place[dish] = where;
                company[dish] = one;
            }
        }

        void add(int day, int where, int one) {
            if (count < MOST_DISHES) {
                count++;
                tell(count - 1, day, where, one);
            }
        }

        void copy(Dishes from) {
            count = from.count;
            System.arraycopy(from.tastes, 0, tastes, 0, MOST_DISHES * TASTES);
            System.arraycopy(from.first, 0, first, 0, MOST_DISHES);
            System.arraycopy(from.place, 0, place, 0, MOST_DISHES);
            System.arraycopy(from.company, 0, company, 0, MOST_DISHES);
        }
    }

    /** The lady and her world: all that acts and texts of the life change, but for the log. */
    private static final class Lady {
        final Dishes dishes = new Dishes();
        int texts = 0;
        int today = 500;
        int at = 500;
        int sorrow = 0;
        int spoons = 0;
        int evening = 0;
        int reach = 5;
        int warFrom = 0;
        int warTo = 0;
        int slip = 0;
        int house = 0;
        int wage = 1;
        int paid = 0;
        int seed = 1;

        boolean takes(int dish) {
            return sorrow < MOST_SORROW && dishes.has(dish);
        }

        /** What it paid and called up stands in served then. */
        void bite(int dish, Law law, Served served) {
            served.put(this, dish);
            law.weigh(served);
            paid = Math.min(MOST_PAID, paid + served.pays);
            sorrow = Math.max(0, Math.min(MOST_SORROW, sorrow + served.turns));
            at = served.values[Served.DAY];
            if (!dishes.isHad(dish)) {
                dishes.tell(dish, today, house, NONE);
            }
            spoons++;
        }

        void comeBack() {
            today = Math.min(LAST_DAY, today + 1);
            at = today;
            sorrow = sorrow / 2;
            spoons = 0;
            evening = Math.min(MOST_EVENING, evening + 1);
        }

        int draw() {
            seed = 1103515245 * seed + 12345;
            return seed >>> 16 & 32767;
        }

        int drawSpoons() {
            int spoonsDrawn = draw() % 4 + 1;
            return dishes.count > 0 ? spoonsDrawn : 0;
        }

        int drawDish() {
            return dishes.count > 0 ? draw() % dishes.count : NONE;
        }

        void copy(Lady from) {
            dishes.copy(from.dishes);
            texts = from.texts;
            today = from.today;
            at = from.at;
            sorrow = from.sorrow;
            spoons = from.spoons;
            evening = from.evening;
            reach = from.reach;
            warFrom = from.warFrom;
            warTo = from.warTo;
            slip = from.slip;
            house = from.house;
            wage = from.wage;
            paid = from.paid;
            seed = from.seed;
        }
    }

    /** What the law may ask of a dish that is served, and what it answers. */
    private static final class Served {
        static final int DISH = 0;
        static final int DAY = 1;
        static final int PLACE = 2;
        static final int COMPANY = 3;
        static final int SORROW = 4;
        static final int SPOONS = 5;
        static final int NEW = 6;
        static final int WAR = 7;
        static final int ALONE = 8;
        static final int VALUES = 9;
        static final int NOBODY = 9;

        int called = NONE;
        int turns = 0;
        int pays = 0;
        final int[] values = new int[VALUES];

        void put(Lady lady, int dish) {
            turns = 0;
            pays = lady.wage;
            called = lady.dishes.calledUp(dish, lady.reach);
            values[DISH] = dish;
            values[SORROW] = lady.sorrow;
            values[SPOONS] = lady.spoons;
            values[NEW] = lady.dishes.isHad(dish) ? 0 : 1;
            values[DAY] = lady.today;
            values[PLACE] = lady.house;
            values[COMPANY] = NOBODY;
            values[WAR] = 0;
            values[ALONE] = 0;
            if (lady.dishes.has(called)) {
                putCalled(lady);
            }
        }

        private void putCalled(Lady lady) {
            int day = lady.dishes.first[called];
            int one = lady.dishes.company[called];
            values[DAY] = day;
            values[PLACE] = lady.dishes.place[called];
            values[COMPANY] = one == NONE ? NOBODY : one;
            values[WAR] = day >= lady.warFrom && day <= lady.warTo ? 1 : 0;
            values[ALONE] = one == NONE ? 1 : 0;
        }
    }

    /** The law, its conditions as codes in which each sign stands behind what it joins. */
    private static final class Law {
        static final int MOST_LINES = 12;
        static final int GRIEF = 0;
        static final int JOY = 1;
        static final int PAY = 2;
        /** Codes below this one are numbers; from it on come the values of what is served. */
        static final int FIRST_VALUE = 1000;
        static final int PLUS = 1010;
        static final int LESS = 1011;
        static final int MORE = 1012;
        static final int NOT = 1013;
        static final int AND = 1014;
        static final int OR = 1015;
        /** Six levels of brackets need some twenty. */
        private static final int MOST_STACK = 64;

        /** NONE: there is no law. */
        int lines = NONE;
        private final int[] kinds = new int[MOST_LINES];
        private final int[] amounts = new int[MOST_LINES];
        private final int[] ends = new int[MOST_LINES];
        private final int[] codes = new int[MOST_TAPE];
        private int size = 0;
        private final int[] stack = new int[MOST_STACK];

        void clear() {
            lines = 0;
            size = 0;
        }

        void add(int code) {
            if (size < MOST_TAPE) {
                codes[size] = code;
                size++;
            }
        }

        /** The codes added since the line before are its condition. */
        void endLine(int kind, int amount) {
            if (lines >= 0 && lines < MOST_LINES) {
                kinds[lines] = kind;
                amounts[lines] = amount;
                ends[lines] = size;
                lines++;
            }
        }

        void weigh(Served served) {
            for (int line = 0; line < lines && line < MOST_LINES; line++) {
                if (holds(line, served)) {
                    if (kinds[line] == PAY) {
                        served.pays += amounts[line];
                    } else {
                        served.turns += kinds[line] == GRIEF ? amounts[line] : -amounts[line];
                    }
                }
            }
        }

        private boolean holds(int line, Served served) {
            int height = 0;
            for (int i = line > 0 ? ends[line - 1] : 0; i < ends[line]; i++) {
                height = step(codes[i], height, served);
            }
            return height == 0 || stack[0] != 0;
        }

        /** Answers how high the stack is then. */
        private int step(int code, int height, Served served) {
            if (code < PLUS) {
                return push(code, height, served);
            }
            if (code == NOT && height >= 1) {
                stack[height - 1] = 1 - stack[height - 1];
                return height;
            }
            if (height < 2) {
                return height;
            }
            stack[height - 2] = join(code, stack[height - 2], stack[height - 1]);
            return height - 1;
        }

        private int push(int code, int height, Served served) {
            if (height >= MOST_STACK || code < 0 || code >= FIRST_VALUE + Served.VALUES) {
                return height;
            }
            stack[height] = code < FIRST_VALUE ? code : served.values[code - FIRST_VALUE];
            return height + 1;
        }

        private static int join(int code, int one, int other) {
            switch (code) {
                case PLUS:
                    return one + other;
                case LESS:
                    return one < other ? 1 : 0;
                case MORE:
                    return one > other ? 1 : 0;
                case AND:
                    return one & other;
                default:
                    return one | other;
            }
        }

        void copy(Law from) {
            lines = from.lines;
            size = from.size;
            System.arraycopy(from.kinds, 0, kinds, 0, MOST_LINES);
            System.arraycopy(from.amounts, 0, amounts, 0, MOST_LINES);
            System.arraycopy(from.ends, 0, ends, 0, MOST_LINES);
            System.arraycopy(from.codes, 0, codes, 0, MOST_TAPE);
        }
    }

    /** The latest spoons, in a ring. */
    private static final class Log {
        private static final int MOST = 60;
        private static final int WIDTH = 4;

        int rows = 0;
        private int latest = 0;
        private final int[] cells = new int[MOST * WIDTH];

        void write(int evening, int dish, int called, int at) {
            latest = (latest + 1) % MOST;
            int begin = latest * WIDTH;
            if (begin >= 0 && begin + WIDTH <= MOST * WIDTH) {
                cells[begin] = evening;
                cells[begin + 1] = dish;
                cells[begin + 2] = called;
                cells[begin + 3] = at;
            }
            rows = Math.min(MOST, rows + 1);
        }

        int read(int ago, int what) {
            if (ago < 0 || ago >= rows || what < 0 || what >= WIDTH) {
                return NO_ROW;
            }
            return cells[(latest + MOST - ago) % MOST * WIDTH + what];
        }

        int rowsOf(int dish) {
            int many = 0;
            for (int ago = 0; ago < rows; ago++) {
                if (read(ago, 1) == dish) {
                    many++;
                }
            }
            return many;
        }

        int latestEvening(int dish) {
            for (int ago = 0; ago < rows; ago++) {
                if (read(ago, 1) == dish) {
                    return read(ago, 0);
                }
            }
            return NONE;
        }

        void copy(Log from) {
            rows = from.rows;
            latest = from.latest;
            System.arraycopy(from.cells, 0, cells, 0, MOST * WIDTH);
        }
    }

    /** How all was ahead of each of the latest acts, in a ring. */
    private static final class Acts {
        private static final int MOST = 12;

        int kept = 0;
        private int free = 0;
        private final Lady[] ladies = new Lady[MOST];
        private final Log[] logs = new Log[MOST];

        Acts() {
            for (int i = 0; i < MOST; i++) {
                ladies[i] = new Lady();
                logs[i] = new Log();
            }
        }

        void remember(Lady lady, Log log) {
            if (free >= 0 && free < MOST) {
                ladies[free].copy(lady);
                logs[free].copy(log);
            }
            free = (free + 1) % MOST;
            kept = Math.min(MOST, kept + 1);
        }

        boolean recall(Lady lady, Log log) {
            if (kept <= 0) {
                return false;
            }
            free = (free + MOST - 1) % MOST;
            kept--;
            if (free >= 0 && free < MOST) {
                lady.copy(ladies[free]);
                log.copy(logs[free]);
            }
            return true;
        }

        void clear() {
            kept = 0;
        }
    }

    /** A text of lines, read thing by thing: a word, a run of digits, or a single sign. */
    private abstract static class Text {
        private static final int END = 0;
        private static final int WORD = 1;
        private static final int DIGITS = 2;
        private static final int SIGN = 3;
        private static final int MOST_DIGITS = 3;

        private int[] text = new int[0];
        private int length = 0;
        private int kind = END;
        private int begin = 0;
        private int behind = 0;

        /** Where it answers false, it stands at the thing that cannot stand there. */
        abstract boolean readLine();

        final int firstWrong(int[] tape, int told, int mostLines) {
            text = tape;
            length = Math.max(0, Math.min(told, tape.length));
            behind = 0;
            advance();
            if (kind == END) {
                return NONE;
            }
            for (int line = 0; line < mostLines; line++) {
                if (!readLine()) {
                    return begin;
                }
                if (kind == END) {
                    return NONE;
                }
                if (!isSign(';')) {
                    return begin;
                }
                advance();
            }
            return begin;
        }

        final void advance() {
            int i = behind;
            while (i < length && text[i] == ' ') {
                i++;
            }
            begin = i;
            kind = kindAt(i);
            if (kind != END) {
                i++;
            }
            while (i < length && kind != SIGN && kindAt(i) == kind) {
                i++;
            }
            behind = i;
        }

        private int kindAt(int i) {
            if (i < 0 || i >= length) {
                return END;
            }
            if (text[i] >= 'a' && text[i] <= 'z') {
                return WORD;
            }
            return text[i] >= '0' && text[i] <= '9' ? DIGITS : SIGN;
        }

        final boolean isSign(char sign) {
            return kind == SIGN && begin < length && text[begin] == sign;
        }

        final boolean isWord(String word) {
            if (kind != WORD || behind - begin != word.length()) {
                return false;
            }
            for (int i = 0; i < word.length() && begin + i < length; i++) {
                if (text[begin + i] != word.charAt(i)) {
                    return false;
                }
            }
            return true;
        }

        final boolean isFigures(int many) {
            return kind == DIGITS && behind - begin == many;
        }

        final int figure(int i) {
            return i >= 0 && begin + i < length ? text[begin + i] - '0' : 0;
        }

        /** NONE, if what stands here is no number, or has too many digits, or is out of its bounds. */
        final int number(int least, int most) {
            if (kind != DIGITS || behind - begin > MOST_DIGITS) {
                return NONE;
            }
            int value = 0;
            for (int i = begin; i < behind && i < length; i++) {
                value = value * 10 + text[i] - '0';
            }
            return value >= least && value <= most ? value : NONE;
        }

        /** The number behind the word that stands here; the reading goes on behind both. */
        final int numberBehind(int least, int most) {
            advance();
            int value = number(least, most);
            if (value != NONE) {
                advance();
            }
            return value;
        }
    }

    /** A text of the life, read into a draft. */
    private static final class LifeText extends Text {
        static final int MOST_LINES = 14;
        private static final int MOST_TOLD = 999;
        private static final int MOST_SLIP = 100;
        private static final int MOST_WAGE = 50;

        final Lady draft = new Lady();

        boolean readLine() {
            if (isWord("dish")) {
                return draft.dishes.count < MOST_DISHES && readDish();
            }
            if (isWord("war")) {
                return readWar();
            }
            if (isWord("today")) {
                draft.today = numberBehind(0, MOST_TOLD);
                draft.at = draft.today;
                return draft.today != NONE;
            }
            if (isWord("reach")) {
                draft.reach = numberBehind(0, MOST_REACH);
                return draft.reach != NONE;
            }
            if (isWord("slip")) {
                draft.slip = numberBehind(0, MOST_SLIP);
                return draft.slip != NONE;
            }
            if (isWord("house")) {
                draft.house = numberBehind(0, LAST_PLACE);
                return draft.house != NONE;
            }
            if (isWord("wage")) {
                draft.wage = numberBehind(0, MOST_WAGE);
                return draft.wage != NONE;
            }
            return false;
        }

        private boolean readWar() {
            int from = numberBehind(0, MOST_TOLD);
            if (from == NONE || !isWord("to")) {
                return false;
            }
            draft.warFrom = from;
            draft.warTo = numberBehind(from, MOST_TOLD);
            return draft.warTo != NONE;
        }

        private boolean readDish() {
            advance();
            if (!isFigures(TASTES)) {
                return false;
            }
            int place = draft.dishes.count * TASTES;
            for (int i = 0; i < TASTES && place + i < MOST_DISHES * TASTES; i++) {
                draft.dishes.tastes[place + i] = figure(i);
            }
            advance();
            if (isWord("first")) {
                return readFirst();
            }
            draft.dishes.add(NONE, NONE, NONE);
            return true;
        }

        private boolean readFirst() {
            int day = numberBehind(0, MOST_TOLD);
            if (day == NONE || !isWord("at")) {
                return false;
            }
            int place = numberBehind(0, LAST_PLACE);
            if (place == NONE) {
                return false;
            }
            int company = NONE;
            if (isWord("with")) {
                company = numberBehind(0, LAST_COMPANY);
                if (company == NONE) {
                    return false;
                }
            }
            draft.dishes.add(day, place, company);
            return true;
        }
    }

    /** A text of the law, read into a draft. */
    private static final class LawText extends Text {
        private static final int MOST_AMOUNT = 60;
        private static final int MOST_NUMBER = 999;
        private static final int MOST_DEEP = 6;
        /** Beside the brackets and nots there may wait an or and an and on each level. */
        private static final int MOST_WAITING = 3 * (MOST_DEEP + 1);
        private static final int BRACKET = 0;

        final Law draft = new Law();
        /** What is read, but whose code comes only behind that of what it joins. */
        private final int[] waiting = new int[MOST_WAITING];
        private int waitingSize = 0;
        /** How many brackets and nots are waiting. */
        private int deep = 0;

        boolean readLine() {
            int kind = kindHere();
            if (kind == NONE) {
                return false;
            }
            int amount = numberBehind(0, MOST_AMOUNT);
            if (amount == NONE) {
                return false;
            }
            if (isWord("if")) {
                advance();
                if (!readCondition()) {
                    return false;
                }
            }
            draft.endLine(kind, amount);
            return true;
        }

        private int kindHere() {
            if (isWord("grief")) {
                return Law.GRIEF;
            }
            if (isWord("joy")) {
                return Law.JOY;
            }
            return isWord("pay") ? Law.PAY : NONE;
        }

        private boolean readCondition() {
            waitingSize = 0;
            deep = 0;
            for (int i = 0; i < MOST_TAPE; i++) {
                int opening = openingHere();
                if (opening != NONE) {
                    if (deep >= MOST_DEEP) {
                        return false;
                    }
                    deep++;
                    putOff(opening);
                } else {
                    if (!readState() && !readComparison()) {
                        return false;
                    }
                    closeBrackets();
                    int joining = joiningHere();
                    if (joining == NONE) {
                        settle(Law.OR);
                        return waitingSize == 0;
                    }
                    settle(joining);
                    putOff(joining);
                }
            }
            return false;
        }

        private int openingHere() {
            if (isWord("not")) {
                return Law.NOT;
            }
            return isSign('(') ? BRACKET : NONE;
        }

        private int joiningHere() {
            if (isWord("and")) {
                return Law.AND;
            }
            return isWord("or") ? Law.OR : NONE;
        }

        private void putOff(int code) {
            if (waitingSize < MOST_WAITING) {
                waiting[waitingSize] = code;
                waitingSize++;
            }
            advance();
        }

        /** Codes are so numbered that what binds more has the lesser one. */
        private void settle(int loosest) {
            for (int i = waitingSize - 1; i >= 0 && waiting[i] != BRACKET && waiting[i] <= loosest; i--) {
                if (waiting[i] == Law.NOT) {
                    deep--;
                }
                draft.add(waiting[i]);
                waitingSize = i;
            }
        }

        private void closeBrackets() {
            for (int i = 0; i < MOST_DEEP && isSign(')'); i++) {
                settle(Law.OR);
                if (waitingSize == 0) {
                    return;
                }
                waitingSize--;
                deep--;
                advance();
            }
        }

        private boolean readState() {
            int state = stateHere();
            if (state == NONE) {
                return false;
            }
            draft.add(Law.FIRST_VALUE + state);
            advance();
            return true;
        }

        private int stateHere() {
            if (isWord("new")) {
                return Served.NEW;
            }
            if (isWord("war")) {
                return Served.WAR;
            }
            return isWord("alone") ? Served.ALONE : NONE;
        }

        private boolean readComparison() {
            if (!readSum()) {
                return false;
            }
            boolean less = isSign('<');
            if (!less && !isSign('>')) {
                return false;
            }
            advance();
            if (!readSum()) {
                return false;
            }
            draft.add(less ? Law.LESS : Law.MORE);
            return true;
        }

        private boolean readSum() {
            for (int parts = 0; parts < MOST_TAPE; parts++) {
                int number = number(0, MOST_NUMBER);
                int value = valueHere();
                if (number == NONE && value == NONE) {
                    return false;
                }
                draft.add(number != NONE ? number : Law.FIRST_VALUE + value);
                if (parts > 0) {
                    draft.add(Law.PLUS);
                }
                advance();
                if (!isSign('+')) {
                    return true;
                }
                advance();
            }
            return false;
        }

        private int valueHere() {
            if (isWord("dish")) {
                return Served.DISH;
            }
            if (isWord("day")) {
                return Served.DAY;
            }
            if (isWord("place")) {
                return Served.PLACE;
            }
            if (isWord("company")) {
                return Served.COMPANY;
            }
            if (isWord("sorrow")) {
                return Served.SORROW;
            }
            return isWord("spoons") ? Served.SPOONS : NONE;
        }
    }

    /** Looks for the first row of dishes in which her greatest sorrow is the least. */
    private static final class Orders {
        static final int MOST = 6;

        int least = 0;
        private int size = 0;
        private final int[] row = new int[MOST];
        private final int[] best = new int[MOST];
        private final Lady[] behind = new Lady[MOST + 1];

        Orders() {
            for (int i = 0; i <= MOST; i++) {
                behind[i] = new Lady();
            }
        }

        void search(Lady lady, int set, Law law, Served served) {
            size = Math.min(MOST, Integer.bitCount(set));
            least = MOST_SORROW + 1;
            behind[0].copy(lady);
            goOn(0, set, lady.sorrow, law, served);
        }

        /** Rows come in their order, so that only a lesser one takes the place of the best. */
        private void goOn(int depth, int open, int greatest, Law law, Served served) {
            if (greatest >= least) {
                return;
            }
            if (depth >= size || depth >= MOST) {
                least = greatest;
                System.arraycopy(row, 0, best, 0, size);
                return;
            }
            for (int dish = 0; dish < MOST_DISHES; dish++) {
                if ((open >> dish & 1) != 0) {
                    Lady then = behind[depth + 1];
                    then.copy(behind[depth]);
                    if (then.takes(dish)) {
                        then.bite(dish, law, served);
                    }
                    row[depth] = dish;
                    goOn(depth + 1, open & ~(1 << dish), Math.max(greatest, then.sorrow), law, served);
                }
            }
        }

        int nth(int k) {
            return k >= 0 && k < size ? best[k] : NONE;
        }
    }

    /** Looks for the first way to hold jars for dishes in which all of them are the least far. */
    private static final class Jars {
        static final int MOST = 5;

        /** NONE: there are more jars than dishes. */
        int least = NONE;
        private int size = 0;
        private int dishCount = 0;
        private final int[] fars = new int[MOST * MOST_DISHES];
        private final int[] row = new int[MOST];
        private final int[] best = new int[MOST];

        void search(int[] tape, int jars, Dishes dishes) {
            size = Math.min(MOST, jars);
            dishCount = dishes.count;
            least = NONE;
            if (size > dishCount) {
                size = 0;
                return;
            }
            for (int jar = 0; jar < size; jar++) {
                for (int dish = 0; dish < dishCount; dish++) {
                    fars[jar * MOST_DISHES + dish] = farFrom(tape, jar, dishes, dish);
                }
            }
            goOn(0, 0, 0);
        }

        private static int farFrom(int[] tape, int jar, Dishes dishes, int dish) {
            int sum = 0;
            for (int i = 0; i < TASTES && jar * TASTES + i < tape.length; i++) {
                int by = tape[jar * TASTES + i] - dishes.tastes[dish * TASTES + i];
                sum += by < 0 ? -by : by;
            }
            return sum;
        }

        /** Ways come in their order, so that only a lesser one takes the place of the best. */
        private void goOn(int jar, int used, int sum) {
            if (least != NONE && sum >= least) {
                return;
            }
            if (jar >= size || jar >= MOST) {
                least = sum;
                System.arraycopy(row, 0, best, 0, size);
                return;
            }
            for (int dish = 0; dish < dishCount; dish++) {
                if ((used >> dish & 1) == 0 && isWorthwhile(jar, dish)) {
                    row[jar] = dish;
                    goOn(jar + 1, used | 1 << dish, sum + fars[jar * MOST_DISHES + dish]);
                }
            }
        }

        /** The other jars cannot hold all of as many better dishes as there are jars. */
        private boolean isWorthwhile(int jar, int dish) {
            int begin = jar * MOST_DISHES;
            int better = 0;
            for (int other = 0; other < dishCount; other++) {
                int by = fars[begin + other] - fars[begin + dish];
                if (by < 0 || by == 0 && other < dish) {
                    better++;
                }
            }
            return better < size;
        }

        int nth(int k) {
            return k >= 0 && k < size ? best[k] : NONE;
        }
    }
}
