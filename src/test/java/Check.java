/** What the tests share: answers that are due, exceptions that are due, and texts put on the tape. */
final class Check {
    /** Two dishes of one day, two new ones (3 is near 0, 4 is lonely), and a war. */
    static final String LIFE = "dish 12345 first 120 at 1 with 3;dish 12346 first 250 at 2;dish 99999 first 305 at 1 with 3;dish 12344;dish 00000;"
        + "dish 99990 first 120 at 4 with 2;war 240 to 310;today 600;house 5;wage 2;slip 50";

    private static int wrong = 0;
    private static int asked = 0;

    private Check() {
    }

    interface Call {
        Object answer();
    }

    static void due(String call, Object got, Object want) {
        asked++;
        if (!want.equals(got)) {
            wrong++;
            System.out.println(call + " answered " + got + ", due is " + want);
        }
    }

    /** The exception must be of this very class: what the machine throws is of a class below it. */
    static void dueThrow(String call, Class<?> want, Call run) {
        Object got;
        try {
            got = run.answer();
        } catch (RuntimeException e) {
            got = e.getClass();
        }
        due(call, got, want);
    }

    static void finish() {
        System.out.println(asked + " asked, " + wrong + " wrong");
        if (wrong != 0 || asked == 0) {
            System.exit(1);
        }
    }

    /** The tape is this text's bytes alone then. */
    static void tape(BiteYears x, String text) {
        x.end(0);
        for (int i = 0; i < text.length(); i += 20) {
            x.feed(four(text, i), four(text, i + 4), four(text, i + 8), four(text, i + 12), four(text, i + 16));
        }
        if (!x.end(text.length())) {
            throw new IllegalStateException("the test's text is longer than a tape: " + text);
        }
    }

    static void tape(BiteYears x, int... bytes) {
        StringBuilder text = new StringBuilder();
        for (int b : bytes) {
            text.append((char) b);
        }
        tape(x, text.toString());
    }

    static int four(String text, int from) {
        int number = 0;
        for (int i = from; i < from + 4; i++) {
            number = number << 8 | (i < text.length() ? text.charAt(i) : 0);
        }
        return number;
    }

    static int life(BiteYears x, String text) {
        tape(x, text);
        return x.life();
    }

    static int law(BiteYears x, String text) {
        tape(x, text);
        return x.law();
    }

    static BiteYears with(String life, String law) {
        BiteYears x = new BiteYears();
        life(x, life);
        if (law != null) {
            law(x, law);
        }
        return x;
    }

    /** The text is refused at this byte; NONE: it is right. */
    static void dueLifeFault(BiteYears x, String text, int want) {
        tape(x, text);
        int before = x.count(1);
        Class<?> thrown = null;
        try {
            x.life();
        } catch (RuntimeException e) {
            thrown = e.getClass();
        }
        dueFault("life " + text, x, thrown, want);
        due("texts behind " + text, x.count(1), want == BiteYears.NONE ? before + 1 : before);
    }

    static void dueLawFault(BiteYears x, String text, int want) {
        tape(x, text);
        Class<?> thrown = null;
        try {
            x.law();
        } catch (RuntimeException e) {
            thrown = e.getClass();
        }
        dueFault("law " + text, x, thrown, want);
    }

    private static void dueFault(String call, BiteYears x, Class<?> thrown, int want) {
        due("thrown by " + call, String.valueOf(thrown),
            String.valueOf(want == BiteYears.NONE ? null : IllegalArgumentException.class));
        due("fault of " + call, x.fault(), want);
        due("tape behind " + call, x.feed(0, 0, 0, 0, 0), 20);
        x.end(0);
    }
}
