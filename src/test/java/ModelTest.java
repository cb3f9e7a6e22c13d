import java.lang.reflect.InvocationTargetException;
import java.lang.reflect.Method;
import java.util.ArrayList;
import java.util.Comparator;
import java.util.List;
import java.util.Random;

/** Random runs of all calls, with the same answers and exceptions as the model's. */
public final class ModelTest {
    private static final int RUNS = 5000;
    /** A step takes 26 calls at most, and the last look takes 17: an object is used for at most 512 in all. */
    private static final int LAST_STEP = 512 - 26 - 17;
    private static final String[] PARTS = {"dish", "day", "place", "company", "sorrow", "spoons", "0", "3", "9", "60", "250", "999"};
    private static final String[] STATES = {"new", "war", "alone"};

    private final Random random;
    private final BiteYears x = new BiteYears();
    private final Model model = new Model();
    private final StringBuilder told = new StringBuilder();
    private final boolean dear;

    private ModelTest(long seed) {
        random = new Random(seed);
        dear = seed % 4 == 0;
    }

    public static void main(String[] args) throws Exception {
        List<Method> face = new ArrayList<>(List.of(BiteYears.class.getDeclaredMethods()));
        face.removeIf(m -> !java.lang.reflect.Modifier.isPublic(m.getModifiers()));
        face.sort(Comparator.comparing(Method::getName));
        int right = 0;
        for (int run = 0; run < RUNS; run++) {
            ModelTest test = new ModelTest(run);
            boolean ok = test.run(face);
            right += ok ? 1 : 0;
            if (!ok) {
                System.out.println("run " + run + ":\n" + test.told);
                break;
            }
        }
        Check.due("random runs that are like the model's", right, RUNS);
        Check.finish();
    }

    private boolean run(List<Method> face) throws Exception {
        int calls = 0;
        while (calls < LAST_STEP) {
            Method method = random.nextInt(3) == 0 ? named(face) : face.get(random.nextInt(face.size()));
            calls += putTape(method.getName());
            if (!same(method, arguments(method))) {
                return false;
            }
            for (int i = 0; i < 3; i++) {
                if (!sameCount(random.nextInt(17))) {
                    return false;
                }
            }
            calls += 4;
        }
        for (int what = 0; what < 17; what++) {
            if (!sameCount(what)) {
                return false;
            }
        }
        return true;
    }

    private boolean sameCount(int what) {
        int got = x.count(what);
        if (got == model.count(what)) {
            return true;
        }
        told.append("then count(").append(what).append(") is ").append(got).append(", due is ").append(model.count(what)).append('\n');
        return false;
    }

    /** Acts and texts come more often than the rest. */
    private Method named(List<Method> face) {
        String[] often = {"spoon", "spoon", "crust", "life", "law", "had", "forget", "undo", "evenings", "menu", "order", "dish"};
        String name = often[random.nextInt(often.length)];
        return face.stream().filter(m -> m.getName().equals(name)).findFirst().get();
    }

    private boolean same(Method method, Object[] arguments) throws Exception {
        Object got = answer(method, x, arguments);
        Method twin = Model.class.getDeclaredMethod(method.getName(), method.getParameterTypes());
        Object want = answer(twin, model, arguments);
        told.append(method.getName()).append(List.of(arguments)).append(" -> ").append(got).append('\n');
        if (String.valueOf(got).equals(String.valueOf(want))) {
            return true;
        }
        told.append("due is ").append(want).append('\n');
        return false;
    }

    private static Object answer(Method method, Object on, Object[] arguments) throws Exception {
        try {
            return method.invoke(on, arguments);
        } catch (InvocationTargetException e) {
            return e.getCause().getClass();
        }
    }

    private Object[] arguments(Method method) {
        Object[] arguments = new Object[method.getParameterCount()];
        String name = method.getName();
        for (int i = 0; i < arguments.length; i++) {
            if (method.getParameterTypes()[i] == boolean.class) {
                arguments[i] = random.nextBoolean();
            } else if (random.nextInt(60) == 0) {
                arguments[i] = new int[] {Integer.MIN_VALUE, Integer.MAX_VALUE, -1, 12, 400, 1 << 20, -2}[random.nextInt(7)];
            } else {
                arguments[i] = argument(name, i);
            }
        }
        return arguments;
    }

    private int argument(String name, int i) {
        int dishes = Math.max(1, model.count(0));
        int dish = random.nextInt(20) == 0 ? dishes : random.nextInt(dishes);
        switch (name) {
            case "had":
                return i == 0 ? dish : i == 1 ? random.nextInt(random.nextInt(20) == 0 ? 10001 : 1200) : random.nextInt(9) - (i == 3 ? 1 : 0);
            case "dish":
                return i == 0 ? dish : random.nextInt(12);
            case "far": case "near": case "spoon": case "forget": case "hosts": case "breaks": case "led":
                return dish;
            case "fewest":
                return i == 0 ? random.nextInt(1024) & random.nextInt(1024) & random.nextInt(1024) & random.nextInt(1024)
                    : random.nextInt(1024) & random.nextInt(1024);
            case "order":
                return i == 1 ? random.nextInt(8) - 1
                    : dear ? random.nextInt(4096) & random.nextInt(4096) : random.nextInt(4096) & random.nextInt(4096) & random.nextInt(4096);
            case "dated":
                return random.nextInt(4096) & random.nextInt(4096);
            case "jars":
                return random.nextInt(7) - 1;
            case "log":
                return i == 0 ? random.nextInt(62) - 1 : random.nextInt(5);
            case "menu":
                return random.nextInt(5);
            case "evenings": case "trial": case "span":
                return random.nextInt(random.nextInt(8) == 0 ? 62 : 5);
            case "end":
                return random.nextInt(30) - 1;
            case "reach":
                return random.nextInt(47);
            case "seed": case "feed":
                return random.nextInt();
            default:
                return random.nextInt(9);
        }
    }

    /** How many calls it took. */
    private int putTape(String name) {
        String text;
        switch (name) {
            case "life":
                text = spoiled(life());
                break;
            case "law":
                text = spoiled(law());
                break;
            case "menu":
                text = bytes(random.nextInt(random.nextInt(9) == 0 ? 42 : 8), model.count(0) + (random.nextInt(8) == 0 ? 1 : 0));
                break;
            case "he":
                text = pairs();
                break;
            case "unknown": case "serve":
                text = looks();
                break;
            case "jars":
                text = bytes(5 * random.nextInt(6) + (random.nextInt(9) == 0 ? 1 : 0), random.nextInt(9) == 0 ? 11 : 10);
                break;
            default:
                return 0;
        }
        int calls = 2;
        x.end(0);
        model.end(0);
        for (int i = 0; i < text.length() && i < 400; i += 20, calls++) {
            int[] n = {Check.four(text, i), Check.four(text, i + 4), Check.four(text, i + 8), Check.four(text, i + 12), Check.four(text, i + 16)};
            x.feed(n[0], n[1], n[2], n[3], n[4]);
            model.feed(n[0], n[1], n[2], n[3], n[4]);
        }
        x.end(Math.min(400, text.length()));
        model.end(Math.min(400, text.length()));
        told.append("tape: ").append(text).append('\n');
        return calls;
    }

    private String bytes(int many, int below) {
        StringBuilder text = new StringBuilder();
        for (int i = 0; i < many; i++) {
            text.append((char) random.nextInt(Math.max(1, below)));
        }
        return text.toString();
    }

    private String pairs() {
        StringBuilder text = new StringBuilder();
        for (int i = random.nextInt(3); i > 0; i--) {
            text.append((char) random.nextInt(random.nextInt(9) == 0 ? 102 : 11)).append((char) random.nextInt(random.nextInt(9) == 0 ? 9 : 4));
        }
        return random.nextInt(20) == 0 ? text + "\1" : text.toString();
    }

    private String looks() {
        StringBuilder text = new StringBuilder();
        int dish = random.nextInt(Math.max(1, model.count(0)));
        int day = model.count(0) > 0 ? model.dish(dish, 5) : 77;
        for (int i = random.nextInt(random.nextInt(9) == 0 ? 23 : 3); i > 0; i--) {
            text.append((char) (Math.max(0, day / 10 + random.nextInt(random.nextInt(9) == 0 ? 3 : 2)) & 255));
        }
        return text.toString();
    }

    private String blanks() {
        return " ".repeat(random.nextInt(6) == 0 ? random.nextInt(3) : 0);
    }

    private String life() {
        StringBuilder text = new StringBuilder(blanks());
        int lines = random.nextInt(random.nextInt(10) == 0 ? 16 : 7);
        int days = random.nextBoolean() ? 1000 : 300;
        for (int i = 0; i < lines; i++) {
            text.append(i > 0 ? blanks() + ";" + blanks() : "");
            switch (random.nextInt(12)) {
                case 0:
                    text.append("today ").append(random.nextInt(days));
                    break;
                case 1:
                    text.append("war ").append(random.nextInt(500)).append(" to ").append(random.nextInt(20) == 0 ? 3 : 500 + random.nextInt(500));
                    break;
                case 2:
                    text.append("reach").append(blanks()).append(random.nextInt(46));
                    break;
                case 3:
                    text.append("slip ").append(random.nextInt(101));
                    break;
                case 4:
                    text.append("house ").append(random.nextInt(8));
                    break;
                case 5:
                    text.append("wage ").append(random.nextInt(51));
                    break;
                default:
                    text.append("dish").append(blanks());
                    for (int j = 0; j < 5; j++) {
                        text.append(random.nextInt(random.nextBoolean() ? 10 : 2));
                    }
                    if (random.nextInt(3) > 0) {
                        text.append(" first ").append(random.nextInt(days)).append("at").append(random.nextInt(4));
                        text.append(random.nextInt(3) > 0 ? " with " + random.nextInt(4) : "");
                    }
            }
        }
        return text + blanks();
    }

    private String law() {
        StringBuilder text = new StringBuilder(blanks());
        int lines = random.nextInt(random.nextInt(10) == 0 ? 15 : 7);
        for (int i = 0; i < lines; i++) {
            text.append(i > 0 ? blanks() + ";" + blanks() : "");
            text.append(random.nextInt(3) == 0 ? "pay " : random.nextInt(3) > 0 ? "grief" : "joy ").append(random.nextInt(random.nextInt(4) == 0 ? 61 : 9));
            if (random.nextInt(4) > 0) {
                text.append(" if ").append(condition(random.nextInt(5), 0));
            }
        }
        return text + blanks();
    }

    private String condition(int size, int deep) {
        int kind = deep > 7 ? 0 : random.nextInt(size <= 0 ? 2 : 6);
        switch (kind) {
            case 2:
                return condition(size - 1, deep) + " and " + condition(size - 2, deep);
            case 3:
                return condition(size - 1, deep) + " or " + condition(size - 2, deep);
            case 4:
                return "not " + condition(size - (random.nextInt(3) > 0 ? 0 : 1), deep + 1);
            case 5:
                return "(" + blanks() + condition(size - (random.nextInt(3) > 0 ? 0 : 1), deep + 1) + ")";
            case 1:
                return STATES[random.nextInt(3)];
            default:
                return sum() + blanks() + (random.nextBoolean() ? "<" : ">") + blanks() + sum();
        }
    }

    private String sum() {
        String part = PARTS[random.nextInt(PARTS.length)];
        return random.nextInt(3) == 0 ? part + blanks() + "+" + sum() : part;
    }

    /** Most texts stay right; of the rest a byte is changed, lost or doubled. */
    private String spoiled(String text) {
        if (text.isEmpty() || random.nextInt(4) > 0) {
            return text;
        }
        int i = random.nextInt(text.length());
        switch (random.nextInt(4)) {
            case 0:
                return text.substring(0, i);
            case 1:
                return text.substring(0, i) + text.substring(i + 1);
            case 2:
                return text.substring(0, i + 1) + text.substring(i);
            default:
                return text.substring(0, i) + ";()<>+ 019azAZ\t\0\377and".charAt(random.nextInt(20)) + text.substring(i + 1);
        }
    }
}
