import java.util.Random;

/**
 * THE MOST, its row, ORDERS, LIFTED, MARRIAGES and OUT of eight to ten TABLES, drawn by a written seed: too many for
 * the Model, so they are looked for here by putting TABLES one upon another till one doesn't hold.
 */
public final class OrdersTest {
    private static final String[] KINDS = {"pine", "oak", "folding", "castor"};

    private static int counted = 0;

    private final Random random;
    private final int tables;
    private final int[] kind = new int[10];
    private final int[] weight = new int[10];
    private final int[] bears = new int[10];
    private final int[] meal = new int[10];
    private final int[] tilts = new int[10];
    private final int[] row = new int[10];
    private int limit;
    private int years;
    private TableTower x;

    private OrdersTest(int seed) {
        random = new Random(seed);
        tables = 8 + seed % 3;
    }

    public static void main(String[] args) {
        int runs = args.length > 0 ? Integer.parseInt(args[0]) : 60;
        for (int seed = 0; seed < runs; seed++) {
            OrdersTest test = new OrdersTest(seed);
            test.tell();
            for (int round = 0; round < 4; round++) {
                test.alter();
                String where = "seed " + seed + ", round " + round + ": ";
                test.look(where);
                test.lookAtMost(where);
            }
        }
        Check.that("there are orders to count: " + counted, counted > runs);
        Check.end();
    }

    private void tell() {
        limit = random.nextInt(16);
        int heavy = 1 + random.nextInt(12);
        int strong = 10 + random.nextInt(heavy * 8);
        StringBuilder text = new StringBuilder("food ").append(random.nextInt(80)).append(";");
        text.append("limit ").append(limit).append(";");
        for (int t = 0; t < tables; t++) {
            kind[t] = random.nextInt(4);
            weight[t] = 1 + random.nextInt(heavy);
            bears[t] = random.nextInt(strong);
            text.append(KINDS[kind[t]]).append(' ').append(weight[t]).append(' ').append(bears[t]);
            text.append(random.nextBoolean() ? " -" : " ").append(random.nextInt(8)).append(' ');
            text.append(random.nextInt(9)).append(";");
        }
        x = Check.tower(text.toString());
    }

    /** Some ACTS, by which MEALS, WEDGES, LEANS, YEARS and what is by are others. */
    private void alter() {
        int t = random.nextInt(tables);
        switch (random.nextInt(6)) {
            case 0: x.supper(); break;
            case 1: years = x.years(1 + random.nextInt(2)); break;
            case 2: x.wedge(t, random.nextInt(19) - 9); break;
            case 3: x.saw(t, random.nextInt(19) - 9); break;
            case 4: x.take(t); break;
            default: x.put(t, 0); break;
        }
        for (int i = 0; i < tables; i++) {
            meal[i] = x.table(i, 5);
            tilts[i] = (x.table(i, 3) + x.table(i, 6)) * (kind[i] == 3 ? 2 : 1);
        }
    }

    private int carries(int t, boolean top) {
        int much = kind[t] == 2 && !top ? bears[t] / 2 : bears[t];
        int worm = kind[t] == 0 ? 3 * years : kind[t] == 1 ? years : 2 * years;
        return Math.max(0, much - worm);
    }

    /** In how many orders the rest can stand upon a tilt, as many as wanted at the most; row has the last one found. */
    private long orders(int rest, int level, int tilt, int lifted, int sea, long wanted) {
        if (rest == 0) {
            return 1;
        }
        long sum = 0;
        for (int t = 0; t < tables && sum < wanted; t++) {
            int above = rest & ~(1 << t);
            boolean low = (lifted >> t & 1) != 0 && level < sea;
            if (above == rest || low || Math.abs(tilt + tilts[t]) > limit || load(t, above) > carries(t, above == 0)) {
                continue;
            }
            row[level] = t;
            sum += orders(above, level + 1, tilt + tilts[t], lifted, sea, wanted - sum);
        }
        return sum;
    }

    private int load(int t, int above) {
        int sum = meal[t];
        for (int other = 0; other < tables; other++) {
            sum += (above >> other & 1) * (weight[other] + meal[other]);
        }
        return sum;
    }

    private int most() {
        for (int many = tables; many > 0; many--) {
            for (int set = 0; set < 1 << tables; set++) {
                if (Integer.bitCount(set) == many && orders(set, 0, 0, 0, 0, 1) > 0) {
                    return set;
                }
            }
        }
        return 0;
    }

    private int couples(int rest) {
        int best = 0;
        for (int a = 0; a < tables; a++) {
            for (int b = 0; b < a && (rest >> a & 1) != 0; b++) {
                boolean could = carries(a, false) >= weight[b] && carries(b, false) >= weight[a];
                if ((rest >> b & 1) != 0 && could) {
                    best = Math.max(best, 1 + couples(rest & (1 << a) - 1 & ~(1 << b)));
                }
            }
        }
        return best;
    }

    private boolean standsWithout(int out) {
        int above = 0;
        int tilt = 0;
        for (int level = 0; level < x.count(1); level++) {
            above |= 1 << x.level(level, 0) & ~out;
        }
        for (int level = 0; level < x.count(1); level++) {
            int t = x.level(level, 0);
            if ((out >> t & 1) == 0) {
                above &= ~(1 << t);
                tilt += tilts[t];
                if (Math.abs(tilt) > limit || load(t, above) > carries(t, above == 0)) {
                    return false;
                }
            }
        }
        return true;
    }

    private int out(int table, int others) {
        for (int many = 0; many <= Integer.bitCount(others); many++) {
            for (int set = 0; set <= others; set++) {
                if ((set & ~others) == 0 && Integer.bitCount(set) == many && standsWithout(set | 1 << table)) {
                    return set;
                }
            }
        }
        return TableTower.NONE;
    }

    private void look(String where) {
        int set = most();
        Check.due(where + "most(0)", Integer.bitCount(set), x.most(0));
        Check.due(where + "most(1)", set, x.most(1));
        for (int i = 0; i < Integer.bitCount(set); i++) {
            Check.due(where + "row(" + i + ")", row[i], x.row(i));
        }
        int all = (1 << tables) - 1;
        int in = all & ~x.by();
        Check.due(where + "marriages()", couples(all), x.marriages());
        lookAtOrders(where, in);
        for (int t = 0; t < tables; t++) {
            if ((in >> t & 1) != 0) {
                Check.due(where + "out(" + t + ")", out(t, in & ~(1 << t)), x.out(t));
            }
        }
    }

    private void lookAtOrders(String where, int in) {
        long many = orders(in, 0, 0, 0, 0, Long.MAX_VALUE);
        counted += many > 0 ? 1 : 0;
        Check.due(where + "orders()", many, x.orders());
        for (int i = 0; i < 5; i++) {
            int set = random.nextInt(1 << tables) & random.nextInt(1 << tables);
            int sea = random.nextInt(5);
            String call = where + "lifted(" + set + ", " + sea + ")";
            Check.due(call, orders(in, 0, 0, set, sea, Long.MAX_VALUE), x.lifted(set, sea));
        }
    }

    /** THE TOWER has the TABLES of THE MOST alone, so that there are orders to count; then all is undone. */
    private void lookAtMost(String where) {
        int set = x.most(1);
        int acts = x.count(9);
        for (int t = 0; t < tables; t++) {
            boolean within = (set >> t & 1) != 0;
            if (within && x.table(t, 7) == TableTower.NONE) {
                x.put(t, 0);
            } else if (!within && x.table(t, 7) != TableTower.NONE) {
                x.take(t);
            }
        }
        lookAtOrders(where + "of THE MOST, ", set);
        while (x.count(9) > acts) {
            x.undo();
        }
    }
}
