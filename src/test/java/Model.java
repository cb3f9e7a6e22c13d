import java.math.BigInteger;
import java.util.ArrayList;
import java.util.Collections;
import java.util.List;
import java.util.NoSuchElementException;
import java.util.TreeSet;

/** The document once more, in another and slower way: sets are tried out whole, laws are read again at each spoon. */
final class Model {
    static final int NONE = -1;

    static final class Dish implements Cloneable {
        int[] tastes;
        Integer first;
        int place;
        Integer company;

        Dish copy() {
            Dish d = new Dish();
            d.tastes = tastes;
            d.first = first;
            d.place = place;
            d.company = company;
            return d;
        }
    }

    static final class World {
        List<Dish> dishes = new ArrayList<>();
        int texts, today = 500, at = 500, sorrow, spoons, evening, reach = 5, warFrom, warTo, slip, house, wage = 1, paid;
        int seed = 1;
        List<String> law;
        List<int[]> log = new ArrayList<>();

        World copy() {
            World w = new World();
            for (Dish d : dishes) {
                w.dishes.add(d.copy());
            }
            w.texts = texts;
            w.today = today;
            w.at = at;
            w.sorrow = sorrow;
            w.spoons = spoons;
            w.evening = evening;
            w.reach = reach;
            w.warFrom = warFrom;
            w.warTo = warTo;
            w.slip = slip;
            w.house = house;
            w.wage = wage;
            w.paid = paid;
            w.seed = seed;
            w.law = law;
            w.log = new ArrayList<>(log);
            return w;
        }

        int far(int a, int b) {
            return farTastes(dishes.get(a).tastes, dishes.get(b).tastes);
        }

        int calls(int dish) {
            if (dishes.get(dish).first != null) {
                return dish;
            }
            for (int far = 0; far <= reach; far++) {
                for (int i = 0; i < dishes.size(); i++) {
                    if (dishes.get(i).first != null && far(dish, i) == far) {
                        return i;
                    }
                }
            }
            return NONE;
        }

        int sum(int dish, String kind) {
            int sum = 0;
            if (law != null) {
                for (String line : law) {
                    sum += new Lawyer(line, this, dish).worth(kind);
                }
            }
            return sum;
        }

        int turns(int dish) {
            return sum(dish, "grief") - sum(dish, "joy");
        }

        int pays(int dish) {
            return wage + sum(dish, "pay");
        }

        void spoon(int dish) {
            int turns = turns(dish);
            int pays = pays(dish);
            int called = calls(dish);
            paid = Math.min(9999, paid + pays);
            sorrow = Math.max(0, Math.min(99, sorrow + turns));
            at = called == NONE ? today : dishes.get(called).first;
            Dish d = dishes.get(dish);
            if (d.first == null) {
                d.first = today;
                d.place = house;
                d.company = null;
            }
            spoons++;
            log.add(0, new int[] {evening, dish, called, at});
            if (log.size() > 60) {
                log.remove(60);
            }
        }

        void crust() {
            today = Math.min(9999, today + 1);
            at = today;
            sorrow /= 2;
            spoons = 0;
            evening = Math.min(9999, evening + 1);
        }

        int draw() {
            long next = (1103515245L * seed + 12345) & 0xFFFFFFFFL;
            seed = (int) next;
            return (int) (next >> 16 & 0x7FFF);
        }

        int evening() {
            int many = draw() % 4 + 1;
            int taken = 0;
            for (int i = 0; i < many && !dishes.isEmpty(); i++) {
                int dish = draw() % dishes.size();
                if (sorrow != 99) {
                    spoon(dish);
                    taken++;
                }
            }
            crust();
            return taken;
        }
    }

    static int farTastes(int[] a, int[] b) {
        int far = 0;
        for (int i = 0; i < 5; i++) {
            far += Math.abs(a[i] - b[i]);
        }
        return far;
    }

    /** A text as things, each with the place at which it begins. */
    static class Things {
        final String text;
        int pos;

        Things(String text) {
            this.text = text;
        }

        int skip() {
            while (pos < text.length() && text.charAt(pos) == ' ') {
                pos++;
            }
            return pos;
        }

        String peek() {
            int i = skip();
            if (i == text.length()) {
                return "";
            }
            int j = i + 1;
            while (j < text.length() && kind(i) > 0 && kind(j) == kind(i)) {
                j++;
            }
            return text.substring(i, j);
        }

        private int kind(int i) {
            char c = text.charAt(i);
            return c >= 'a' && c <= 'z' ? 1 : c >= '0' && c <= '9' ? 2 : 0;
        }

        Fault wrong() {
            return new Fault(skip());
        }

        void take(String thing) throws Fault {
            if (thing.isEmpty() || !peek().equals(thing)) {
                throw wrong();
            }
            pos += thing.length();
        }

        boolean takes(String thing) {
            if (!peek().equals(thing)) {
                return false;
            }
            pos += thing.length();
            return true;
        }

        int number(int least, int most) throws Fault {
            String digits = peek();
            if (digits.isEmpty() || kind(pos) != 2 || digits.length() > 3 || Integer.parseInt(digits) < least || Integer.parseInt(digits) > most) {
                throw wrong();
            }
            pos += digits.length();
            return Integer.parseInt(digits);
        }
    }

    static final class Fault extends Exception {
        private static final long serialVersionUID = 1;
        final int place;

        Fault(int place) {
            this.place = place;
        }
    }

    /** Reads a line of the law, and at the same time tells whether it holds for a served dish. */
    static final class Lawyer extends Things {
        final World world;
        final int dish;

        Lawyer(String text, World world, int dish) {
            super(text);
            this.world = world;
            this.dish = dish;
        }

        int worth(String kind) {
            try {
                String word = peek();
                take(word);
                int n = number(0, 60);
                boolean holds = !takes("if") || any(0);
                return word.equals(kind) && holds ? n : 0;
            } catch (Fault e) {
                throw new AssertionError("a law that was right is wrong now: " + text);
            }
        }

        void line() throws Fault {
            if (!takes("grief") && !takes("joy")) {
                take("pay");
            }
            number(0, 60);
            if (takes("if")) {
                any(0);
            }
        }

        boolean any(int deep) throws Fault {
            boolean holds = all(deep);
            while (takes("or")) {
                boolean other = all(deep);
                holds = holds || other;
            }
            return holds;
        }

        boolean all(int deep) throws Fault {
            boolean holds = atom(deep);
            while (takes("and")) {
                boolean other = atom(deep);
                holds = holds && other;
            }
            return holds;
        }

        boolean atom(int deep) throws Fault {
            String thing = peek();
            if ((thing.equals("not") || thing.equals("(")) && deep == 6) {
                throw wrong();
            }
            if (takes("not")) {
                return !atom(deep + 1);
            }
            if (takes("(")) {
                boolean holds = any(deep + 1);
                take(")");
                return holds;
            }
            Dish d = world == null ? null : world.dishes.get(dish);
            Dish called = d == null || world.calls(dish) == NONE ? null : world.dishes.get(world.calls(dish));
            if (takes("new")) {
                return d != null && d.first == null;
            }
            if (takes("war")) {
                return called != null && called.first >= world.warFrom && called.first <= world.warTo;
            }
            if (takes("alone")) {
                return called != null && called.company == null;
            }
            int left = sum(called);
            boolean less = takes("<");
            if (!less) {
                take(">");
            }
            int right = sum(called);
            return less ? left < right : left > right;
        }

        int sum(Dish called) throws Fault {
            int sum = part(called);
            while (takes("+")) {
                sum += part(called);
            }
            return sum;
        }

        int part(Dish called) throws Fault {
            boolean blind = world == null;
            if (takes("dish")) {
                return dish;
            }
            if (takes("day")) {
                return blind ? 0 : called == null ? world.today : called.first;
            }
            if (takes("place")) {
                return blind ? 0 : called == null ? world.house : called.place;
            }
            if (takes("company")) {
                return called == null || called.company == null ? 9 : called.company;
            }
            if (takes("sorrow")) {
                return blind ? 0 : world.sorrow;
            }
            if (takes("spoons")) {
                return blind ? 0 : world.spoons;
            }
            return number(0, 999);
        }
    }

    World now = new World();
    World image;
    List<World> acts = new ArrayList<>();
    String tape = "";
    int fault = NONE;

    private static RuntimeException thrown(String name) {
        switch (name) {
            case "index":
                return new IndexOutOfBoundsException();
            case "argument":
                return new IllegalArgumentException();
            case "state":
                return new IllegalStateException();
            case "element":
                return new NoSuchElementException();
            default:
                return new UnsupportedOperationException();
        }
    }

    private void needDish(int... dishes) {
        for (int d : dishes) {
            if (d < 0 || d >= now.dishes.size()) {
                throw thrown("index");
            }
        }
    }

    private void needPlace(int place) {
        if (place < 0 || place > 7) {
            throw thrown("index");
        }
    }

    private void need(boolean right, String name) {
        if (!right) {
            throw thrown(name);
        }
    }

    private void act() {
        acts.add(now.copy());
        if (acts.size() > 12) {
            acts.remove(0);
        }
    }

    private String takeTape() {
        String told = tape;
        tape = "";
        return told;
    }

    int feed(int a, int b, int c, int d, int e) {
        if (tape.length() + 20 > 400) {
            return NONE;
        }
        StringBuilder more = new StringBuilder(tape);
        for (int n : new int[] {a, b, c, d, e}) {
            more.append((char) (n >>> 24)).append((char) (n >> 16 & 255)).append((char) (n >> 8 & 255)).append((char) (n & 255));
        }
        tape = more.toString();
        return tape.length();
    }

    boolean end(int n) {
        if (n < 0 || n > tape.length()) {
            return false;
        }
        tape = tape.substring(0, n);
        return true;
    }

    int life() {
        Things things = new Things(takeTape());
        World draft = now.copy();
        try {
            fault = NONE;
            for (int lines = 0; lines > 0 || !things.peek().isEmpty(); lines++) {
                if (lines == 14) {
                    throw things.wrong();
                }
                lifeLine(things, draft);
                if (things.peek().isEmpty()) {
                    break;
                }
                things.take(";");
            }
        } catch (Fault e) {
            fault = e.place;
            throw thrown("argument");
        }
        need(now.texts < 12, "unsupported");
        now = draft;
        now.texts++;
        acts.clear();
        return now.texts;
    }

    private static void lifeLine(Things t, World w) throws Fault {
        if (t.peek().equals("dish")) {
            if (w.dishes.size() == 12) {
                throw t.wrong();
            }
            t.take("dish");
            String figures = t.peek();
            if (!figures.matches("[0-9]{5}")) {
                throw t.wrong();
            }
            t.take(figures);
            Dish d = new Dish();
            d.tastes = new int[5];
            for (int i = 0; i < 5; i++) {
                d.tastes[i] = figures.charAt(i) - '0';
            }
            if (t.takes("first")) {
                d.first = t.number(0, 999);
                t.take("at");
                d.place = t.number(0, 7);
                if (t.takes("with")) {
                    d.company = t.number(0, 7);
                }
            }
            w.dishes.add(d);
        } else if (t.takes("today")) {
            w.today = t.number(0, 999);
            w.at = w.today;
        } else if (t.takes("war")) {
            w.warFrom = t.number(0, 999);
            t.take("to");
            w.warTo = t.number(w.warFrom, 999);
        } else if (t.takes("reach")) {
            w.reach = t.number(0, 45);
        } else if (t.takes("slip")) {
            w.slip = t.number(0, 100);
        } else if (t.takes("house")) {
            w.house = t.number(0, 7);
        } else {
            t.take("wage");
            w.wage = t.number(0, 50);
        }
    }

    int law() {
        Lawyer things = new Lawyer(takeTape(), null, 0);
        List<String> lines = new ArrayList<>();
        try {
            fault = NONE;
            while (!lines.isEmpty() || !things.peek().isEmpty()) {
                if (lines.size() == 12) {
                    throw things.wrong();
                }
                int from = things.skip();
                things.line();
                lines.add(things.text.substring(from, things.pos));
                if (things.peek().isEmpty()) {
                    break;
                }
                things.take(";");
            }
        } catch (Fault e) {
            fault = e.place;
            throw thrown("argument");
        }
        now.law = lines;
        acts.clear();
        return lines.size();
    }

    int fault() {
        return fault;
    }

    int dish(int dish, int what) {
        needDish(dish);
        need(what >= 0 && what <= 10, "element");
        Dish d = now.dishes.get(dish);
        if (what < 5) {
            return d.tastes[what];
        }
        if (what < 8 && d.first == null) {
            return NONE;
        }
        int[] rest = {what == 5 ? d.first : 0, d.place, d.company == null ? NONE : d.company, now.calls(dish),
            now.turns(dish), now.pays(dish)};
        return rest[what - 5];
    }

    int far(int a, int b) {
        needDish(a, b);
        return now.far(a, b);
    }

    interface Is {
        boolean it(int i);
    }

    private int bits(Is is) {
        int bits = 0;
        for (int i = 0; i < now.dishes.size(); i++) {
            bits += is.it(i) ? 1 << i : 0;
        }
        return bits;
    }

    private boolean isHad(int i) {
        return now.dishes.get(i).first != null;
    }

    private int first(int i) {
        return now.dishes.get(i).first;
    }

    int near(int dish) {
        needDish(dish);
        return bits(i -> i != dish && now.far(i, dish) <= now.reach);
    }

    int left() {
        return bits(i -> !isHad(i));
    }

    int spoon(int dish) {
        needDish(dish);
        need(now.sorrow < 99, "state");
        act();
        now.spoon(dish);
        return now.at;
    }

    int crust() {
        act();
        now.crust();
        return now.today;
    }

    int had(int dish, int day, int place, int company) {
        needDish(dish);
        needPlace(place);
        need(day >= 0 && day <= 9999 && company >= -1 && company <= 7, "argument");
        act();
        Dish d = now.dishes.get(dish);
        int was = d.first == null ? NONE : d.first;
        d.first = day;
        d.place = place;
        d.company = company == NONE ? null : (Integer) company;
        return was;
    }

    int forget(int dish) {
        needDish(dish);
        need(isHad(dish), "state");
        act();
        int was = first(dish);
        now.dishes.get(dish).first = null;
        return was;
    }

    int reach(int n) {
        need(n >= 0 && n <= 45, "argument");
        act();
        int was = now.reach;
        now.reach = n;
        return was;
    }

    int house(int n) {
        needPlace(n);
        act();
        int was = now.house;
        now.house = n;
        return was;
    }

    int look() {
        act();
        return now.at / 10 + (now.draw() % 100 < now.slip ? 1 : 0);
    }

    int evenings(int n) {
        need(n >= 1 && n <= 60, "argument");
        act();
        int taken = 0;
        for (int i = 0; i < n; i++) {
            taken += now.evening();
        }
        return taken;
    }

    int menu(int what) {
        String told = takeTape();
        need(told.length() <= 40 && told.chars().allMatch(c -> c < now.dishes.size()), "argument");
        need(what >= 0 && what <= 3, "element");
        World w = now.copy();
        int taken = 0;
        int pay = 0;
        for (char dish : told.toCharArray()) {
            if (w.sorrow == 99) {
                break;
            }
            pay += w.pays(dish);
            w.spoon(dish);
            taken++;
        }
        return new int[] {w.at, w.sorrow, taken, pay}[what];
    }

    int fewest(int must, int not) {
        need(must >= 0 && must <= 1023 && not >= 0 && not <= 1023, "argument");
        int best = NONE;
        for (int set = 0; set < 1 << now.dishes.size(); set++) {
            int ages = 0;
            boolean right = true;
            for (int i = 0; i < now.dishes.size(); i++) {
                if ((set >> i & 1) == 1) {
                    right &= isHad(i);
                    ages |= isHad(i) && first(i) < 1000 ? 1 << first(i) / 100 : 0;
                }
            }
            if (right && (ages & must) == must && (ages & not) == 0
                && (best == NONE || Integer.bitCount(set) < Integer.bitCount(best))) {
                best = set;
            }
        }
        return best;
    }

    int order(int set, int k) {
        List<Integer> dishes = new ArrayList<>();
        for (int i = 0; i < now.dishes.size(); i++) {
            if ((set >> i & 1) == 1) {
                dishes.add(i);
            }
        }
        need(dishes.size() <= 6, "argument");
        List<List<Integer>> rows = new ArrayList<>();
        permute(new ArrayList<>(), dishes, rows);
        int least = 1000;
        List<Integer> best = null;
        for (List<Integer> row : rows) {
            World w = now.copy();
            int greatest = w.sorrow;
            for (int dish : row) {
                if (w.sorrow < 99) {
                    w.spoon(dish);
                    greatest = Math.max(greatest, w.sorrow);
                }
            }
            if (greatest < least) {
                least = greatest;
                best = row;
            }
        }
        return k == NONE ? least : k >= 0 && k < best.size() ? best.get(k) : NONE;
    }

    private static void permute(List<Integer> begun, List<Integer> left, List<List<Integer>> rows) {
        if (left.isEmpty()) {
            rows.add(begun);
        }
        for (Integer one : left) {
            List<Integer> more = new ArrayList<>(begun);
            more.add(one);
            List<Integer> rest = new ArrayList<>(left);
            rest.remove(one);
            permute(more, rest, rows);
        }
    }

    int he() {
        String told = takeTape();
        need(told.length() % 2 == 0 && told.length() <= 40, "argument");
        for (int i = 0; i < told.length(); i += 2) {
            need(told.charAt(i) < 100 && told.charAt(i + 1) < 8, "argument");
        }
        int he = 0;
        for (int one = 0; one < 8; one++) {
            boolean fits = true;
            for (int i = 0; i < told.length(); i += 2) {
                boolean some = false;
                for (Dish d : now.dishes) {
                    some |= d.first != null && d.first / 100 == told.charAt(i) && d.place == told.charAt(i + 1)
                        && d.company != null && d.company == one;
                }
                fits &= some;
            }
            he |= fits ? 1 << one : 0;
        }
        return he;
    }

    private int fits(String looks) {
        return bits(i -> isHad(i) && looks.chars().allMatch(c -> c == first(i) / 10 || c == first(i) / 10 + 1));
    }

    int unknown() {
        String told = takeTape();
        need(told.length() <= 20, "argument");
        return fits(told);
    }

    int serve() {
        String told = takeTape();
        need(told.length() <= 20, "argument");
        int fit = fits(told);
        int best = NONE;
        int least = 100;
        for (int i = 0; i < now.dishes.size() && Integer.bitCount(fit) >= 2; i++) {
            if (isHad(i)) {
                int asked = i;
                int yes = Integer.bitCount(bits(j -> (fit >> j & 1) == 1 && first(j) <= first(asked)));
                int no = Integer.bitCount(bits(j -> (fit >> j & 1) == 1 && first(j) > first(asked)));
                if (Math.max(yes, no) < least) {
                    least = Math.max(yes, no);
                    best = i;
                }
            }
        }
        return best;
    }

    int jars(int k) {
        String told = takeTape();
        need(told.length() % 5 == 0 && told.length() <= 25 && told.chars().allMatch(c -> c < 10), "argument");
        int n = told.length() / 5;
        if (n > now.dishes.size()) {
            return NONE;
        }
        int[] best = new int[n + 1];
        best[n] = 10000;
        assign(told, new int[n], 0, 0, best);
        return k == NONE ? best[n] : k >= 0 && k < n ? best[k] : NONE;
    }

    private void assign(String told, int[] row, int jar, int sum, int[] best) {
        if (jar == row.length) {
            if (sum < best[jar]) {
                System.arraycopy(row, 0, best, 0, jar);
                best[jar] = sum;
            }
            return;
        }
        int[] tastes = new int[5];
        for (int i = 0; i < 5; i++) {
            tastes[i] = told.charAt(jar * 5 + i);
        }
        for (int d = 0; d < now.dishes.size(); d++) {
            boolean free = true;
            for (int i = 0; i < jar; i++) {
                free &= row[i] != d;
            }
            if (free) {
                row[jar] = d;
                assign(told, row, jar + 1, sum + farTastes(tastes, now.dishes.get(d).tastes), best);
            }
        }
    }

    int kitchen(int place) {
        needPlace(place);
        return bits(i -> isHad(i) && now.dishes.get(i).place == place);
    }

    int dated(int set) {
        TreeSet<Integer> days = new TreeSet<>();
        for (int i = 0; i < now.dishes.size(); i++) {
            if ((set >> i & 1) == 1) {
                if (!isHad(i)) {
                    return NONE;
                }
                days.add(first(i));
            }
        }
        return days.isEmpty() ? NONE : days.last();
    }

    int gap() {
        List<Integer> days = new ArrayList<>();
        for (Dish d : now.dishes) {
            if (d.first != null) {
                days.add(d.first);
            }
        }
        Collections.sort(days);
        int gap = 0;
        for (int i = 1; i < days.size(); i++) {
            gap = Math.max(gap, days.get(i) - days.get(i - 1));
        }
        return gap;
    }

    int lover() {
        int best = NONE;
        for (int one = 7; one >= 0; one--) {
            int many = Integer.bitCount(company(one));
            if (many > 0 && (best == NONE || many >= Integer.bitCount(company(best)))) {
                best = one;
            }
        }
        return best;
    }

    int oldest() {
        int best = NONE;
        for (int i = now.dishes.size() - 1; i >= 0; i--) {
            if (isHad(i) && (best == NONE || first(i) <= first(best))) {
                best = i;
            }
        }
        return best;
    }

    int sad() {
        int best = NONE;
        for (int i = now.dishes.size() - 1; i >= 0; i--) {
            if (best == NONE || now.turns(i) >= now.turns(best)) {
                best = i;
            }
        }
        return best;
    }

    int hosts(int a, int b) {
        needDish(a, b);
        need(a != b, "argument");
        int[] dish = {a, b};
        int bits = 0;
        for (int one = 0; one < 2; one++) {
            for (int other = 0; other < 2; other++) {
                boolean stays = has(dish[one], dish[other]) >= has(dish[1 - one], dish[other])
                    && has(dish[other], dish[one]) >= has(dish[1 - other], dish[one]);
                bits |= stays ? 1 << 2 * one + other : 0;
            }
        }
        return bits;
    }

    private int has(int own, int others) {
        if (own == others) {
            return Math.floorDiv(now.pays(own), 2);
        }
        return now.pays(own) - (now.far(own, others) <= now.reach ? 2 : 0);
    }

    int breaks(int dish) {
        needDish(dish);
        World w = now.copy();
        for (int taken = 0; taken <= 100; taken++) {
            if (w.sorrow == 99) {
                return taken;
            }
            w.spoon(dish);
        }
        return NONE;
    }

    int twins() {
        int pairs = 0;
        for (int i = 0; i < now.dishes.size(); i++) {
            for (int j = 0; j < i; j++) {
                pairs += java.util.Arrays.equals(now.dishes.get(i).tastes, now.dishes.get(j).tastes) ? 1 : 0;
            }
        }
        return pairs;
    }

    int next() {
        int best = NONE;
        for (int i = now.dishes.size() - 1; i >= 0; i--) {
            if (isHad(i) && first(i) > now.at && (best == NONE || first(i) <= first(best))) {
                best = i;
            }
        }
        return best;
    }

    int warlike() {
        return bits(i -> isHad(i) && first(i) >= now.warFrom && first(i) <= now.warTo);
    }

    int company(int one) {
        need(one >= 0 && one <= 7, "argument");
        return bits(i -> isHad(i) && now.dishes.get(i).company != null && now.dishes.get(i).company == one);
    }

    int odds(int n, int k) {
        need(n >= 0 && n <= 6 && k >= 0 && k <= 6, "argument");
        BigInteger sum = BigInteger.ZERO;
        for (int way = 0; way < 1 << n; way++) {
            int slips = Integer.bitCount(way);
            if (slips >= k) {
                sum = sum.add(BigInteger.valueOf(now.slip).pow(slips).multiply(BigInteger.valueOf(100 - now.slip).pow(n - slips)));
            }
        }
        return sum.multiply(BigInteger.valueOf(10000)).divide(BigInteger.valueOf(100).pow(n)).intValueExact();
    }

    int share(int place) {
        needPlace(place);
        int all = Integer.bitCount(bits(this::isHad));
        return all == 0 ? 0 : 100 * Integer.bitCount(kitchen(place)) / all;
    }

    private World tried(int n, int seed) {
        World w = now.copy();
        w.seed = seed;
        for (int i = 0; i < n; i++) {
            w.evening();
        }
        return w;
    }

    int trial(int n, boolean paid) {
        need(n >= 0 && n <= 60, "argument");
        World w = tried(n, now.seed);
        return paid ? w.paid : w.sorrow;
    }

    int span(int n, boolean most) {
        need(n >= 0 && n <= 60, "argument");
        TreeSet<Integer> all = new TreeSet<>();
        for (int seed = 1; seed <= 6; seed++) {
            all.add(tried(n, seed).paid);
        }
        return most ? all.last() : all.first();
    }

    int led(int dish, boolean evening) {
        needDish(dish);
        int many = 0;
        int latest = NONE;
        for (int i = now.log.size() - 1; i >= 0; i--) {
            if (now.log.get(i)[1] == dish) {
                many++;
                latest = now.log.get(i)[0];
            }
        }
        return evening ? latest : many;
    }

    int log(int ago, int what) {
        need(what >= 0 && what <= 3, "element");
        return ago >= 0 && ago < now.log.size() ? now.log.get(ago)[what] : -2;
    }

    int seed(int n) {
        int was = now.seed;
        now.seed = n;
        return was;
    }

    boolean undo() {
        if (acts.isEmpty()) {
            return false;
        }
        now = acts.remove(acts.size() - 1);
        return true;
    }

    void image() {
        image = now.copy();
    }

    boolean back() {
        if (image == null) {
            return false;
        }
        now = image.copy();
        acts.clear();
        return true;
    }

    int count(int what) {
        int[] all = {now.dishes.size(), now.texts, now.law == null ? NONE : now.law.size(), now.today, now.at, now.sorrow,
            now.spoons, now.evening, now.reach, now.warFrom, now.warTo, now.slip, now.house, now.wage, now.paid,
            now.log.size(), acts.size()};
        return what >= 0 && what < all.length ? all[what] : NONE;
    }
}
