import java.util.NoSuchElementException;

/** What the tests of boundaries share: the sentence that each belongs to, and how a refused call is looked at. */
class Edges {
    static final Class<?> INDEX = IndexOutOfBoundsException.class;
    static final Class<?> ARGUMENT = IllegalArgumentException.class;
    static final Class<?> STATE = IllegalStateException.class;
    static final Class<?> ELEMENT = NoSuchElementException.class;
    static final Class<?> UNSUPPORTED = UnsupportedOperationException.class;
    static final int NONE = BiteYears.NONE;
    static final int LEAST = Integer.MIN_VALUE;
    static final int GREATEST = Integer.MAX_VALUE;

    private static final Document DOCUMENT = Document.read();
    private static String here = "";
    private static int askedHere = 1;

    interface Make {
        BiteYears fresh();
    }

    interface Use {
        Object on(BiteYears x);
    }

    /** The tests from here on belong to this sentence under a promise's own heading. */
    static void of(String heading, String sentence) {
        begin(heading, heading, sentence);
    }

    /** The tests from here on belong to this sentence of the terms, on which these promises rest. */
    static void term(String sentence, int... promises) {
        begin("Terms", "Terms, of promises " + java.util.Arrays.toString(promises), sentence);
        for (int promise : promises) {
            Check.due("whether there is promise " + promise, promise >= 1 && promise <= 48, true);
        }
    }

    private static void begin(String heading, String where, String sentence) {
        endOfSentence();
        here = where + ": " + sentence;
        Check.due("whether the document says under " + here, DOCUMENT.quote(heading, sentence), true);
        askedHere = 0;
    }

    private static void endOfSentence() {
        Check.due("whether there is a test of " + here, askedHere > 0, true);
    }

    static void allIsQuoted() {
        endOfSentence();
        Check.due("promises of the document", DOCUMENT.promises(), 48);
        for (String rest : DOCUMENT.unquoted()) {
            Check.due("a test of " + rest, "none", "one");
        }
    }

    static void due(String call, Object got, Object want) {
        askedHere++;
        Check.due("[" + here + "] " + call, got, want);
    }

    static void dueRow(String call, int[] got, int... want) {
        due(call, java.util.Arrays.toString(got), java.util.Arrays.toString(want));
    }

    // ---- refused calls ----

    /** The call throws this, and nothing has changed by it. */
    static void refused(String call, Class<?> want, Make make, Use use) {
        dueRefused(call, want, make, make, use);
    }

    static void refused(String call, Class<?> want, Use use) {
        refused(call, want, Edges::full, use);
    }

    /** The call throws this, the tape is used up, and nothing else has changed by it. */
    static void refusedTape(String call, Class<?> want, Make make, Use use) {
        dueRefused(call, want, make, () -> {
            BiteYears x = make.fresh();
            x.end(0);
            return x;
        }, use);
    }

    /** The full one with this tape. */
    static void refusedTape(String call, Class<?> want, String tape, Use use) {
        refusedTape(call, want, () -> taped(full(), tape), use);
    }

    private static void dueRefused(String call, Class<?> want, Make make, Make unchanged, Use use) {
        due(call + " throws", thrown(make.fresh(), use), want);
        due("all behind " + call, wholeView(() -> {
            BiteYears x = make.fresh();
            thrown(x, use);
            return x;
        }, true), wholeView(unchanged, true));
    }

    private static Object thrown(BiteYears x, Use use) {
        try {
            return use.on(x);
        } catch (RuntimeException e) {
            return e.getClass();
        }
    }

    /** Nothing has changed by the call. */
    static void unchanged(String call, Make make, Use use) {
        due("all behind " + call, wholeView(() -> used(make, use), true), wholeView(make, true));
    }

    static void unchanged(String call, Use use) {
        unchanged(call, Edges::full, use);
    }

    /** Nothing has changed by the call but that the tape is used up. */
    static void unchangedButTape(String call, String tape, Use use) {
        due("all behind " + call, wholeView(() -> used(() -> taped(full(), tape), use), true), wholeView(() -> taped(full(), ""), true));
    }

    private static BiteYears used(Make make, Use use) {
        BiteYears x = make.fresh();
        use.on(x);
        return x;
    }

    /** The text of the life is refused at this byte, and nothing of it stays. */
    static void wrongLife(Make make, String text, int at) {
        dueWrong("life " + text, make, text, at, BiteYears::life);
    }

    static void wrongLife(String text, int at) {
        wrongLife(BiteYears::new, text, at);
    }

    static void wrongLaw(Make make, String text, int at) {
        dueWrong("law " + text, make, text, at, BiteYears::law);
    }

    static void wrongLaw(String text, int at) {
        wrongLaw(BiteYears::new, text, at);
    }

    private static void dueWrong(String call, Make make, String text, int at, Use use) {
        BiteYears x = taped(make.fresh(), text);
        due(call + " throws", thrown(x, use), ARGUMENT);
        due("fault behind " + call, x.fault(), at);
        due("all behind " + call, wholeView(() -> {
            BiteYears y = taped(make.fresh(), text);
            thrown(y, use);
            return y;
        }, false), wholeView(() -> taped(make.fresh(), ""), false));
    }

    // ---- all that can be seen of an object ----

    /** What is now, behind each act undone, behind going back, and what the tape is as a text; each on an object of its own. */
    private static String wholeView(Make make, boolean withFault) {
        StringBuilder all = new StringBuilder(view(make.fresh(), withFault));
        for (int undone = 1; undone <= 13; undone++) {
            BiteYears x = make.fresh();
            boolean was = true;
            for (int i = 0; i < undone; i++) {
                was = x.undo();
            }
            all.append("\nundone ").append(undone).append(' ').append(was).append(view(x, withFault));
            if (!was) {
                break;
            }
        }
        BiteYears gone = make.fresh();
        all.append("\nback ").append(gone.back()).append(view(gone, withFault));
        BiteYears told = make.fresh();
        all.append("\nlife ").append(thrown(told, BiteYears::life)).append(view(told, true));
        BiteYears ruled = make.fresh();
        all.append("\nlaw ").append(thrown(ruled, BiteYears::law)).append(view(ruled, true));
        return all.toString();
    }

    private static String view(BiteYears x, boolean withFault) {
        StringBuilder v = new StringBuilder();
        for (int what = 0; what <= 16; what++) {
            v.append(' ').append(x.count(what));
        }
        v.append(" fault ").append(withFault ? x.fault() : "?").append(" seed ").append(seedOf(x)).append(" tape ").append(tapeLength(x));
        for (int dish = 0; dish < x.count(0); dish++) {
            v.append(" dish");
            for (int what = 0; what <= 10; what++) {
                v.append(' ').append(x.dish(dish, what));
            }
        }
        for (int ago = 0; ago < Math.min(8, x.count(15)); ago++) {
            v.append(" row");
            for (int what = 0; what <= 3; what++) {
                v.append(' ').append(x.log(ago, what));
            }
        }
        return v.toString();
    }

    static int seedOf(BiteYears x) {
        int seed = x.seed(0);
        x.seed(seed);
        return seed;
    }

    /** The tape is then as it was. */
    static int tapeLength(BiteYears x) {
        int fed = x.feed(0, 0, 0, 0, 0);
        if (fed != NONE) {
            x.end(fed - 20);
            return fed - 20;
        }
        for (int n = 400; n > 380; n--) {
            if (x.end(n)) {
                return n;
            }
        }
        return NONE;
    }

    static int[] counts(BiteYears x, int... whats) {
        int[] got = new int[whats.length];
        for (int i = 0; i < whats.length; i++) {
            got[i] = x.count(whats[i]);
        }
        return got;
    }

    static int[] row(BiteYears x, int ago) {
        return new int[] {x.log(ago, 0), x.log(ago, 1), x.log(ago, 2), x.log(ago, 3)};
    }

    /** FIRST, PLACE, COMPANY. */
    static int[] firstOf(BiteYears x, int dish) {
        return new int[] {x.dish(dish, 5), x.dish(dish, 6), x.dish(dish, 7)};
    }

    // ---- objects ----

    /** Six dishes, a law, an image, ten acts, rows in the log, a fault, a seed and a tape: all that a refused call could spoil. */
    static BiteYears full() {
        BiteYears x = Check.with(Check.LIFE, "grief 7 if new;joy 3 if war;pay 4 if spoons > 0;grief 2");
        x.spoon(2);
        x.crust();
        x.image();
        x.seed(4242);
        x.spoon(3);
        x.had(4, 77, 6, 5);
        x.reach(9);
        x.house(2);
        x.look();
        x.forget(1);
        x.evenings(1);
        x.spoon(0);
        thrown(taped(x, "slip"), BiteYears::life);
        return taped(x, "slip 77");
    }

    /** The full one with as much sorrow as there can be. */
    static BiteYears saddest() {
        BiteYears x = full();
        Check.law(x, "grief 60");
        x.spoon(0);
        x.spoon(0);
        return taped(x, "slip 77");
    }

    static BiteYears with(String life) {
        return Check.with(life, null);
    }

    static BiteYears with(String life, String law) {
        return Check.with(life, law);
    }

    /** So many dishes, all new, told in one text: 00000, 11111 and on to 99999, then 00001 and 11112. */
    static BiteYears dishes(int many) {
        StringBuilder text = new StringBuilder();
        for (int i = 0; i < many; i++) {
            text.append(i > 0 ? ";" : "").append("dish ").append(String.valueOf(i % 10).repeat(4)).append(i < 10 ? i : i - 9);
        }
        return with(text.toString());
    }

    static BiteYears taped(BiteYears x, String text) {
        Check.tape(x, text);
        return x;
    }

    static String bytes(int... bytes) {
        StringBuilder text = new StringBuilder();
        for (int b : bytes) {
            text.append((char) b);
        }
        return text.toString();
    }

    static String lines(int many, String line) {
        return (line + ";").repeat(many).substring(0, many * (line.length() + 1) - 1);
    }

    /** She is as sad as this; what she paid, ate and remembers is not looked at. */
    static BiteYears withSorrow(int sorrow, String life, String law) {
        BiteYears x = with(life);
        int left = sorrow;
        while (left > 0) {
            Check.law(x, "grief " + Math.min(60, left));
            x.spoon(0);
            left -= Math.min(60, left);
        }
        Check.law(x, law);
        return x;
    }

    // ---- draws ----

    static int step(int seed) {
        return 1103515245 * seed + 12345;
    }

    static int drawOf(int seed) {
        return (int) ((seed & 0xFFFFFFFFL) >> 16 & 32767);
    }

    /** The seed from which the next one is this. */
    static int seedAhead(int next) {
        int inverse = 1;
        for (int i = 0; i < 6; i++) {
            inverse *= 2 - 1103515245 * inverse;
        }
        return (next - 12345) * inverse;
    }

    static int seedThatDraws(int draw) {
        return seedAhead(draw << 16);
    }
}
