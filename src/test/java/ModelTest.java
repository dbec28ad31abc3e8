import java.lang.reflect.InvocationTargetException;
import java.lang.reflect.Method;
import java.lang.reflect.Modifier;
import java.nio.charset.StandardCharsets;
import java.util.ArrayList;
import java.util.Comparator;
import java.util.List;
import java.util.Random;

/** Long runs of calls, drawn by a written seed, on an object and on the Model: each answer must be the same. */
public final class ModelTest {
    private static final int CALLS = 512;

    private final Random random;
    private final int maxTables;
    private final TableTower real = new TableTower();
    private final Model model = new Model();
    private final List<String> told = new ArrayList<>();

    private ModelTest(long seed, int maxTables) {
        random = new Random(seed);
        this.maxTables = maxTables;
    }

    private static final List<Method> FACE = new ArrayList<>();
    private static final List<String> ORDERS = List.of("most", "row", "orders", "lifted", "wedges");

    public static void main(String[] args) throws Exception {
        int runs = args.length > 0 ? Integer.parseInt(args[0]) : 400;
        for (Method m : TableTower.class.getDeclaredMethods()) {
            if (Modifier.isPublic(m.getModifiers())) {
                FACE.add(m);
            }
        }
        FACE.sort(Comparator.comparing(Method::getName));
        int wrong = 0;
        for (int run = 0; run < runs; run++) {
            int tables = run % 40 == 39 ? 7 : run % 4 == 0 ? 4 : run % 4 == 1 ? 10 : 5;
            ModelTest test = new ModelTest(run, tables);
            if (!test.run()) {
                wrong++;
                System.out.println("run " + run + ":");
                int from = Math.max(0, test.told.size() - 40);
                for (String s : test.told.subList(from, test.told.size())) {
                    System.out.println("  " + s);
                }
                if (wrong == 3) {
                    break;
                }
            }
        }
        wrong += texts(runs * 100);
        System.out.println(wrong == 0 ? "class and model agree" : wrong + " runs differ");
        System.exit(wrong == 0 ? 0 : 1);
    }

    /** Texts alone, as there are far more of them than of runs. */
    private static int texts(int many) throws Exception {
        int wrong = 0;
        ModelTest test = new ModelTest(77, 11);
        for (int i = 0; i < many && wrong < 3; i++) {
            if (i % 100 == 0) {
                test = new ModelTest(1000 + i, 11);
            }
            String text = test.text();
            test.told.clear();
            boolean same = test.feedText(text) && test.call("town", text.length()) && test.call("fault")
                && test.call("supper") && test.call("count", 6) && test.call("count", 7) && test.call("top", 999)
                && test.call("count", 11);
            if (!same) {
                wrong++;
                System.out.println("text " + i + ": " + text + "\n" + test.told);
            }
        }
        return wrong;
    }

    private boolean run() throws Exception {
        int calls = 0;
        while (calls < CALLS) {
            int before = told.size();
            if (calls == 0 || random.nextInt(170) == 0) {
                String text = random.nextInt(12) == 0 ? text() : goodText();
                if (calls + text.length() / 20 + 2 > CALLS) {
                    return true;
                }
                if (!feedText(text) || !call("town", text.length()) || !call("fault")) {
                    return false;
                }
            } else if (!anyCall()) {
                return false;
            }
            calls += told.size() - before;
        }
        return true;
    }

    private boolean feedText(String text) throws Exception {
        byte[] bytes = text.getBytes(StandardCharsets.ISO_8859_1);
        byte[] padded = java.util.Arrays.copyOf(bytes, (bytes.length + 19) / 20 * 20);
        java.nio.ByteBuffer buffer = java.nio.ByteBuffer.wrap(padded);
        while (buffer.remaining() > 0) {
            int[] five = new int[5];
            for (int i = 0; i < 5; i++) {
                five[i] = buffer.getInt();
            }
            if (!call("feed", five)) {
                return false;
            }
        }
        return true;
    }

    private boolean anyCall() throws Exception {
        Method m = FACE.get(random.nextInt(FACE.size()));
        String name = m.getName();
        // Of ten TABLES there are too many orders for the Model.
        if (maxTables > 7 && ORDERS.contains(name)) {
            return true;
        }
        // A town by chance would mostly empty the tower; a feed by chance would spoil the next text.
        if ((name.equals("town") || name.equals("feed")) && random.nextInt(200) != 0) {
            return call("supper");
        }
        if (name.equals("feed")) {
            // The tape must be known again.
            return call("feed", 1, 2, 3, 4, 5) && call("town", -1) && call("town", 21 + random.nextInt(600))
                && call("town", 7) && call("fault");
        }
        if (name.equals("take") && random.nextBoolean()) {
            return call("put", argument("put", 0), argument("put", 1));
        }
        if (name.equals("years") && random.nextInt(4) != 0) {
            return call("years", 1 + random.nextInt(2));
        }
        if (name.equals("see") && random.nextInt(3) != 0) {
            // What is so, or nearly.
            int level = random.nextInt(5);
            int tilt;
            try {
                tilt = real.level(level, 3);
            } catch (java.util.NoSuchElementException e) {
                tilt = 0;
            }
            return call("see", level, tilt + (random.nextBoolean() ? 0 : random.nextInt(7) - 3));
        }
        if (name.equals("restore") && random.nextInt(4) != 0) {
            name = "undo";
        }
        int[] args = new int[m.getParameterCount()];
        for (int i = 0; i < args.length; i++) {
            args[i] = argument(name, i);
        }
        return call(name, args);
    }

    private static final int[] STRANGE = {-1, -2, 10, 11, 30, 31, 40, 41, 99, 100, 101, 998, 999, 1000, 1023, 1024,
        -9, -10, 9, -99, -100, 600, 601, Integer.MAX_VALUE, Integer.MIN_VALUE, 1 << 16, 15, 8, 7};

    private int argument(String name, int i) {
        int dice = random.nextInt(100);
        if (dice < 5) {
            return STRANGE[random.nextInt(STRANGE.length)];
        }
        if (dice < 7) {
            return random.nextInt();
        }
        switch (name) {
            case "count": return random.nextInt(16);
            case "table": return i == 0 ? random.nextInt(maxTables + 1) : random.nextInt(9);
            case "level": return i == 0 ? random.nextInt(maxTables + 1) : random.nextInt(6);
            case "wedge":
            case "saw": return i == 0 ? random.nextInt(maxTables) : random.nextInt(21) - 10;
            case "nod": return i == 0 ? random.nextInt(maxTables) : random.nextInt(100);
            case "lifted": return i == 0 ? random.nextInt(1 << maxTables) : random.nextInt(maxTables);
            case "decades": return i == 0 ? random.nextInt() : i == 1 ? random.nextInt(41) : random.nextInt(3);
            case "top": return random.nextInt(1000);
            case "broken": return random.nextInt(100);
            case "years": return random.nextInt(32);
            case "see": return i == 0 ? random.nextInt(maxTables) : random.nextInt(31) - 15;
            case "most":
            case "game": return random.nextInt(2);
            case "which": return random.nextInt(3);
            default: return random.nextInt(maxTables);
        }
    }

    private boolean call(String name, int... args) throws Exception {
        Class<?>[] types = new Class<?>[args.length];
        Object[] boxed = new Object[args.length];
        for (int i = 0; i < args.length; i++) {
            types[i] = int.class;
            boxed[i] = args[i];
        }
        String due = answer(Model.class.getMethod(name, types), model, boxed);
        String got = answer(TableTower.class.getMethod(name, types), real, boxed);
        told.add(name + java.util.Arrays.toString(args) + " -> " + got + (got.equals(due) ? "" : ", due is " + due));
        return got.equals(due);
    }

    private static String answer(Method m, Object on, Object[] args) throws Exception {
        try {
            return String.valueOf(m.invoke(on, args));
        } catch (InvocationTargetException e) {
            return "throws " + e.getCause().getClass().getSimpleName();
        }
    }

    // ---- texts

    /** One without a FAULT, and with some TABLES. */
    private String goodText() throws Exception {
        for (int tries = 0; tries < 1000; tries++) {
            String text = text();
            ModelTest other = new ModelTest(0, maxTables);
            other.feedText(text);
            if (other.model.town(text.length()) == 0 && other.model.count(0) * 2 >= maxTables) {
                return text;
            }
        }
        return "";
    }

    private String text() {
        StringBuilder text = new StringBuilder();
        int lines = random.nextInt(maxTables + 1);
        if (random.nextInt(3) != 0) {
            lines = Math.max(lines, maxTables - 2);
        }
        if (random.nextBoolean()) {
            text.append("limit ").append(random.nextInt(random.nextInt(3) != 0 ? 41 : 8)).append(";");
        }
        if (random.nextBoolean()) {
            text.append("food ").append(random.nextInt(random.nextBoolean() ? 1000 : 60)).append("; ");
        }
        if (random.nextInt(4) != 0) {
            text.append("takes ").append(expr(0, 3)).append(";\n");
        }
        boolean light = random.nextInt(3) != 0;
        for (int i = 0; i < lines; i++) {
            text.append(new String[] {"pine", "oak", "folding", "castor"}[random.nextInt(4)]).append(' ');
            text.append(1 + random.nextInt(light ? 12 : 99)).append(' ');
            text.append(random.nextInt(light ? 120 : 1000)).append(' ');
            text.append(random.nextInt(3) == 0 ? "-" : "").append(random.nextInt(random.nextBoolean() ? 10 : 3));
            text.append(' ').append(random.nextInt(light ? 12 : 100)).append(";");
        }
        String s = text.toString();
        for (int k = random.nextInt(6); k >= 4 && !s.isEmpty(); k--) {
            s = mutate(s);
        }
        return s.length() > 600 ? s.substring(0, 600) : s;
    }

    private static final String[] PIECES = {" ", "\n", ";", "(", ")", "+", "-", "*", "/", "<", "=", "not ", " and ",
        " or ", "limit", "food 5;", "takes", "takes 1;", "oak 1 1 1 1;", "12345", "0", "9", "10000", "A", "\u00e9", "\t",
        "level", "x", "not not not not not not not 1", "((((((", "))))))", "((((((1))))))", "(((((1)))))", "limit 3;", "pine "};

    private String mutate(String s) {
        int at = random.nextInt(s.length() + 1);
        int end = Math.min(s.length(), at + random.nextInt(4));
        switch (random.nextInt(4)) {
            case 0: return s.substring(0, at);
            case 1: return s.substring(0, at) + s.substring(end);
            default: return s.substring(0, at) + PIECES[random.nextInt(PIECES.length)] + s.substring(
                random.nextBoolean() ? at : end);
        }
    }

    private static final String[] VALUES = {"level", "hunger", "left", "kind", "above", "weight"};
    private static final String[] BETWEEN = {"+", "-", "*", "/", "<", "=", " and ", " or "};

    /** An EXPR of the grammar, mostly. */
    private String expr(int within, int size) {
        if (size == 0) {
            return random.nextBoolean() ? VALUES[random.nextInt(6)] : String.valueOf(random.nextInt(
                random.nextInt(5) == 0 ? 10000 : 20));
        }
        switch (random.nextInt(5)) {
            case 0: return within < 7 ? "(" + expr(within + 1, size - 1 + random.nextInt(2)) + ")" : "1";
            case 1: return "not " + expr(within, size - 1);
            case 2: return expr(within, 0) + BETWEEN[random.nextInt(8)] + expr(within, size - 1);
            default: return expr(within, size - 1) + BETWEEN[random.nextInt(8)] + expr(within, size - 1);
        }
    }
}
