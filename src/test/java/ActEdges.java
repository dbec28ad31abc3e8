import java.util.List;

/** Edges of count, table, level, by, of the ACTS and what is UNDONE, of what is SEEN, and of AN IMAGE. */
final class ActEdges {
    private static final int NONE = TableTower.NONE;
    private static final int REFUSED = -99;
    private static final int ACTS = 1;
    private static final int SIGHTS = 2;
    private static final String THREE = "oak 1 50 0 5;oak 2 50 0 5;oak 3 50 0 5;";

    private ActEdges() {
    }

    static void all() {
        supperTerms();
        loads();
        carrying();
        tilts();
        holding();
        count();
        countOfMore();
        table();
        level();
        by();
        put();
        take();
        change();
        wedge();
        saw();
        supper();
        years();
        yearsTerms();
        undo();
        actsKept();
        see();
        forget();
        status();
        image();
        restore();
    }

    private static void supperTerms() {
        Edge.of(Edge.TERMS, "kept to 0 to what is left");
        TableTower x = Edge.tower("food 9;oak 1 9 0 5;oak 1 9 0 5;oak 1 9 0 5;takes (level=0)*(0-4)+(level=1)*10;");
        Edge.due("CRUMBS", 0, x.supper());
        Edge.due("below 0", 0, x.table(0, 5));
        Edge.due("above what is left", 9, x.table(1, 5));
        Edge.due("nothing is left", 0, x.table(2, 5));
        TableTower just = Edge.tower("food 9;oak 1 9 0 5;takes 9;");
        Edge.due("just what is left", 0, just.supper());
        TableTower less = Edge.tower("food 9;oak 1 9 0 5;takes 8;");
        Edge.due("one less", 1, less.supper());

        Edge.of(Edge.TERMS, "without a rule its HUNGER, or what is left, if that is less");
        TableTower y = Edge.tower("food 9;oak 1 9 0 5;oak 1 9 0 5;oak 1 9 0 5;");
        Edge.due("CRUMBS", 0, y.supper());
        int[] meals = {5, 4, 0};
        for (int i = 0; i < 3; i++) {
            Edge.due("MEAL", meals[i], y.table(i, 5));
        }

        Edge.of(Edge.TERMS, "FOOD comes from LEVEL 0 up: each TABLE of THE TOWER takes what TAKES gives");
        TableTower up = Edge.tower("food 9;oak 1 9 0 5;oak 1 9 0 5;oak 1 9 0 5;");
        up.change(0, 2);
        up.supper();
        Edge.due("the lowest first", 5, up.table(2, 5));
        Edge.due("then the next", 4, up.table(1, 5));
        Edge.due("nothing is left", 0, up.table(0, 5));
        up.take(2);
        up.supper();
        Edge.due("of THE TOWER", 0, up.table(2, 5));
        Edge.due("of THE TOWER", 4, up.table(0, 5));

        Edge.of(Edge.TERMS, "what is left at the top is CRUMBS");
        TableTower z = Edge.tower("food 19;oak 1 9 0 5;oak 1 9 0 5;oak 1 9 0 5;");
        Edge.due("4 of 19", 4, z.supper());
        Edge.due("without LEVELS all", 100, new TableTower().supper());

        Edge.of(Edge.TERMS, "as it was at the last SUPPER (none at first), till the next one, or till the TABLE is taken off");
        TableTower w = Edge.tower("food 9;oak 1 9 0 5;oak 1 9 0 5;");
        Edge.due("none at first", 0, w.table(0, 5));
        w.supper();
        Edge.due("as it was", 4, w.table(1, 5));
        w.change(0, 1);
        Edge.due("it goes with its TABLE", 4, w.table(1, 5));
        w.supper();
        Edge.due("till the next one", 5, w.table(1, 5));
        Edge.due("in place of it", 4, w.table(0, 5));
        w.take(0);
        Edge.due("taken off", 0, w.table(0, 5));
        w.put(0, 1);
        Edge.due("put on again", 0, w.table(0, 5));
    }

    private static void loads() {
        Edge.of(Edge.TERMS, "WEIGHT and MEAL of all TABLES above it, and MEAL of its own");
        TableTower x = Edge.tower("oak 10 99 0 1;oak 20 99 0 2;oak 30 99 0 3;");
        int[] weights = {50, 30, 0};
        for (int i = 0; i < 3; i++) {
            Edge.due("WEIGHTS", weights[i], x.level(i, 1));
        }
        x.supper();
        int[] loads = {56, 35, 3};
        for (int i = 0; i < 3; i++) {
            Edge.due("and MEALS", loads[i], x.level(i, 1));
        }
    }

    private static void carrying() {
        Edge.of(Edge.TERMS, "(a folding one half of that, cut down, if it isn't at the top)");
        TableTower x = Edge.tower("folding 1 21 0 1;oak 1 21 0 1;folding 1 21 0 1;");
        Edge.due("below", 10, x.level(0, 2));
        Edge.due("no folding one", 21, x.level(1, 2));
        Edge.due("at the top", 21, x.level(2, 2));
        x.change(0, 1);
        Edge.due("in the middle", 10, x.level(1, 2));
        x.take(2);
        Edge.due("at the top now", 21, x.level(1, 2));
        Edge.due("1 by half", 0, Edge.tower("folding 1 1 0 1;oak 1 1 0 1;").level(0, 2));

        Edge.of(Edge.TERMS, "less what worm took, not below 0");
        TableTower y = Edge.tower("folding 1 21 0 1;pine 1 7 0 1;");
        y.years(2);
        Edge.due("half, less worm", 6, y.level(0, 2));
        Edge.due("less worm", 1, y.level(1, 2));
        y.years(1);
        Edge.due("not below 0", 0, y.level(1, 2));
        y.years(2);
        Edge.due("just 0", 0, y.level(0, 2));
        y.years(30);
        Edge.due("not below 0", 0, y.level(0, 2));
    }

    private static void tilts() {
        Edge.of(Edge.TERMS, "LEANS and WEDGES of all TABLES up to it, its own too (those of a castor count twice)");
        TableTower x = Edge.tower("oak 1 9 1 1;castor 1 9 2 1;folding 1 9 -4 1;");
        int[] leans = {1, 5, 1};
        for (int i = 0; i < 3; i++) {
            Edge.due("LEANS", leans[i], x.level(i, 3));
        }
        x.wedge(0, 2);
        x.wedge(1, -3);
        x.wedge(2, 4);
        int[] both = {3, 1, 1};
        for (int i = 0; i < 3; i++) {
            Edge.due("and WEDGES", both[i], x.level(i, 3));
        }
        x.take(1);
        Edge.due("of what is by none", 3, x.level(1, 3));
    }

    private static void holding() {
        Edge.of(Edge.TERMS, "if its LOAD is no more than its TABLE carries");
        Edge.due("as much", 1, Edge.tower("oak 1 7 0 1;oak 7 0 0 1;").level(0, 4));
        Edge.due("one more", 0, Edge.tower("oak 1 6 0 1;oak 7 0 0 1;").level(0, 4));

        Edge.of(Edge.TERMS, "its TILT, without sign, no more than LIMIT");
        TableTower x = Edge.tower("limit 3;oak 1 9 3 1;");
        Edge.due("as much", 1, x.level(0, 4));
        x.wedge(0, 1);
        Edge.due("one more", 0, x.level(0, 4));
        x.wedge(0, -6);
        Edge.due("as much below 0", 1, x.level(0, 4));
        x.wedge(0, -7);
        Edge.due("one less below 0", 0, x.level(0, 4));

        Edge.of(Edge.TERMS, "THE TOWER STANDS, if all HOLD; it BREAKS at the lowest one that doesn't");
        TableTower y = Edge.tower("limit 3;oak 1 9 3 1;oak 1 9 0 1;oak 1 9 1 1;oak 1 9 1 1;");
        Edge.due("one alone doesn't hold", 0, y.count(4));
        Edge.due("two don't: the lowest", 2, y.count(5));
        Edge.due("above it, too", 0, y.level(3, 4));
        y.take(2);
        Edge.due("the highest", 2, y.count(5));
        y.take(3);
        Edge.due("all hold", 1, y.count(4));
        Edge.due("nowhere", NONE, y.count(5));
    }

    private static void count() {
        Edge.of(5, "0 TABLES, 1 LEVELS, 2 LIMIT, 3 FOOD");
        TableTower x = Edge.tower("limit 8;food 7;" + THREE);
        x.take(1);
        int[] want = {3, 2, 8, 7};
        for (int what = 0; what < 4; what++) {
            Edge.due("count " + what, want[what], x.count(what));
        }

        Edge.of(5, "whether it STANDS (1; without LEVELS, too)");
        Edge.due("a new object", 1, new TableTower().count(4));
        TableTower none = Edge.tower("limit 0;oak 1 0 9 1;");
        Edge.due("not", 0, none.count(4));
        none.take(0);
        Edge.due("all are by", 1, none.count(4));

        Edge.of(5, "the LEVEL at which it BREAKS (NONE)");
        Edge.due("a new object", NONE, new TableTower().count(5));
        Edge.due("it stands", NONE, x.count(5));
        Edge.due("LEVEL 0", 0, Edge.tower("limit 0;oak 1 0 9 1;").count(5));

        Edge.of(5, "CRUMBS of the last SUPPER (NONE: there was none)");
        TableTower y = Edge.tower("food 9;" + THREE);
        Edge.due("none", NONE, y.count(6));
        y.supper();
        Edge.due("0 is not none", 0, y.count(6));
        y.take(1);
        y.take(2);
        Edge.due("of the last one", 0, y.count(6));
        y.supper();
        Edge.due("of the last one", 4, y.count(6));
    }

    private static void countOfMore() {
        Edge.of(5, "FULL (bits)");
        TableTower x = Edge.tower("food 9;oak 1 9 0 5;oak 1 9 0 5;oak 1 9 0 0;");
        Edge.due("no HUNGER is FULL", 4, x.count(7));
        x.supper();
        Edge.due("5 of 5, not 4 of 5", 5, x.count(7));
        Edge.due("a new object", 0, new TableTower().count(7));

        Edge.of(Edge.TERMS, "FULL are TABLES whose MEAL is their HUNGER or more (of those in THE TOWER)");
        TableTower more = Edge.tower("food 99;oak 1 9 0 5;oak 1 9 0 6;oak 1 9 0 7;takes 6;");
        more.supper();
        Edge.due("more, as much, less", 3, more.count(7));
        x.take(2);
        Edge.due("what is by is none", 1, x.count(7));

        Edge.of(5, "8 YEARS that went by, 9 ACTS that are kept, 10 SEEN, 11 bytes of the tape, 12 to 14 STATUS 0 to 2");
        TableTower y = Edge.tower(THREE);
        y.years(7);
        y.wedge(0, 1);
        y.see(0, 1);
        y.see(0, 1);
        y.see(0, 1);
        Check.tell(y, "x");
        y.put(0, 0);
        y.put(0, 0);
        for (int i = 0; i < 3; i++) {
            y.see(3, 0);
        }
        y.feed(0, 0, 0, 0, 0);
        int[] want = {7, 2, 3, 20, 1, 2, 3};
        for (int what = 8; what <= 14; what++) {
            Edge.due("count " + what, want[what - 8], y.count(what));
        }

        Edge.of(5, "another what");
        for (int what : new int[] {-1, 15, 16, Integer.MIN_VALUE, Integer.MAX_VALUE}) {
            Edge.noSuchAndSame("count " + what, y, () -> y.count(what));
        }
    }

    private static void table() {
        Edge.of(6, "2 BEARS less worm (not below 0)");
        TableTower x = Edge.tower("folding 7 5 -3 8;oak 1 9 0 1;");
        Edge.due("not halved", 5, x.table(0, 2));
        x.years(2);
        Edge.due("less worm", 1, x.table(0, 2));
        x.years(1);
        Edge.due("not below 0", 0, x.table(0, 2));

        Edge.of(6, "7 its LEVEL (NONE: by)");
        Edge.due("LEVEL 1", 1, x.table(1, 7));
        x.take(0);
        Edge.due("by", NONE, x.table(0, 7));
        Edge.due("one lower", 0, x.table(1, 7));

        Edge.of(6, "Of a TABLE: 0 KIND, 1 WEIGHT");
        TableTower z = Edge.tower("castor 7 21 -3 8;");
        z.supper();
        z.wedge(0, 6);
        int[] want = {3, 7, 21, -3, 8, 8, 6, 0};
        for (int what = 0; what < 8; what++) {
            Edge.due("table " + what, want[what], z.table(0, what));
        }

        Edge.of(6, "no such TABLE (as everywhere), what");
        TableTower y = Edge.tower(THREE);
        for (int table : new int[] {-1, 3, 10, Integer.MIN_VALUE, Integer.MAX_VALUE}) {
            Edge.noSuchAndSame("TABLE " + table, y, () -> y.table(table, 0));
        }
        for (int what : new int[] {-1, 8, Integer.MIN_VALUE, Integer.MAX_VALUE}) {
            Edge.noSuch("what " + what, () -> y.table(0, what));
        }
        Edge.noSuch("neither", () -> y.table(3, 8));
        everywhereNoSuchTable();
    }

    /** Also what is put, taken, wedged and sawn with a wrong number besides: no STATUS counts it. */
    private static void everywhereNoSuchTable() {
        TableTower x = Edge.tower(THREE);
        List<Integer> before = Edge.shot(x);
        for (int table : new int[] {-1, 3}) {
            Edge.noSuch("put", () -> x.put(table, 0));
            Edge.noSuch("put, no such LEVEL", () -> x.put(table, 9));
            Edge.noSuch("take", () -> x.take(table));
            Edge.noSuch("wedge", () -> x.wedge(table, 0));
            Edge.noSuch("wedge 10", () -> x.wedge(table, 10));
            Edge.noSuch("saw", () -> x.saw(table, 0));
            Edge.noSuch("saw -10", () -> x.saw(table, -10));
            Edge.noSuch("without", () -> x.without(table) ? 1 : 0);
            Edge.noSuch("marry", () -> x.marry(table, 0) ? 1 : 0);
            Edge.noSuch("marry the other", () -> x.marry(0, table) ? 1 : 0);
            Edge.noSuch("nod", () -> x.nod(table, 0));
            Edge.noSuch("out", () -> x.out(table));
        }
        Edge.same("nothing is otherwise", before, Edge.shot(x));
    }

    private static void level() {
        Edge.of(7, "0 the TABLE, 1 LOAD, 2 what it carries, 3 TILT, 4 whether it HOLDS (1)");
        TableTower x = Edge.tower("limit 4;oak 1 9 0 1;folding 7 21 3 8;castor 2 30 1 6;");
        int[] want = {1, 2, 10, 3, 1};
        for (int what = 0; what < 5; what++) {
            Edge.due("level(1, " + what + ")", want[what], x.level(1, what));
        }
        Edge.due("doesn't hold", 0, x.level(2, 4));

        Edge.of(7, "no such LEVEL (as everywhere), what");
        x.take(0);
        for (int level : new int[] {-1, 2, 10, Integer.MIN_VALUE, Integer.MAX_VALUE}) {
            Edge.noSuchAndSame("LEVEL " + level, x, () -> x.level(level, 0));
        }
        for (int what : new int[] {-1, 5, Integer.MIN_VALUE, Integer.MAX_VALUE}) {
            Edge.noSuch("what " + what, () -> x.level(0, what));
        }
        Edge.noSuch("neither", () -> x.level(2, 5));
        Edge.noSuch("slack", () -> x.slack(2));
        Edge.noSuch("slack below 0", () -> x.slack(-1));
        Edge.noSuch("change", () -> x.change(0, 2) ? 1 : 0);
        Edge.noSuch("change the other", () -> x.change(2, 0) ? 1 : 0);
        Edge.noSuch("without LEVELS", () -> new TableTower().level(0, 0));
    }

    private static void by() {
        Edge.of(8, "TABLES that are by, as bits.");
        TableTower x = Edge.tower(THREE);
        Edge.due("none", 0, x.by());
        x.take(2);
        x.take(0);
        Edge.due("two", 5, x.by());
        x.take(1);
        Edge.due("all", 7, x.by());
        x.put(2, 0);
        Edge.due("one is on again", 3, x.by());
        Edge.due("a new object", 0, new TableTower().by());
        TableTower ten = Edge.tower("oak 1 9 0 1;".repeat(10));
        ten.take(9);
        Edge.due("the tenth", 512, ten.by());
    }

    private static void put() {
        Edge.of(9, "PUT on: how many LEVELS there are.");
        TableTower x = Edge.tower(THREE);
        x.take(0);
        x.take(1);
        x.take(2);
        Edge.due("on nothing", 1, x.put(1, 0));
        Edge.due("at the top", 2, x.put(0, 1));
        Edge.due("below", 3, x.put(2, 0));
        Edge.order("then", x, 2, 1, 0);

        Edge.of(9, "NONE (STATUS 1): it is in THE TOWER, no such LEVEL.");
        TableTower y = Edge.tower(THREE);
        Edge.refused("it is in THE TOWER", y, ACTS, () -> y.put(1, 0));
        y.take(0);
        Edge.refused("LEVEL 3 of 2", y, ACTS, () -> y.put(0, 3));
        Edge.refused("LEVEL -1", y, ACTS, () -> y.put(0, -1));
        Edge.refused("the least", y, ACTS, () -> y.put(0, Integer.MIN_VALUE));
        Edge.refused("the greatest", y, ACTS, () -> y.put(0, Integer.MAX_VALUE));
        Edge.refused("both", y, ACTS, () -> y.put(1, 9));
        Edge.due("LEVEL 2 of 2", 3, y.put(0, 2));
        TableTower ten = Edge.tower("oak 1 9 0 1;".repeat(10));
        Edge.due("on ten", NONE, ten.put(0, 10));

        Edge.of(Edge.TERMS, "(those from that on are one higher then; 0 to how many there are)");
        TableTower z = Edge.tower(THREE);
        z.take(2);
        z.put(2, 1);
        Edge.order("between", z, 0, 2, 1);
        z.take(2);
        z.put(2, 0);
        Edge.order("0", z, 2, 0, 1);
        z.take(2);
        z.put(2, 2);
        Edge.order("how many there are", z, 0, 1, 2);
    }

    private static void take() {
        Edge.of(10, "TAKEN off: the LEVEL at which it was.");
        TableTower x = Edge.tower(THREE);
        Edge.due("the middle", 1, x.take(1));
        Edge.order("then", x, 0, 2);
        Edge.due("the highest", 1, x.take(2));
        Edge.due("the last", 0, x.take(0));
        Edge.order("then", x);

        Edge.of(10, "NONE (STATUS 1): it is by.");
        Edge.refused("without LEVELS", x, ACTS, () -> x.take(0));
        x.put(0, 0);
        Edge.refused("by", x, ACTS, () -> x.take(1));

        Edge.of(Edge.TERMS, "(WEDGES stay with it)");
        TableTower y = Edge.tower(THREE);
        y.wedge(1, 5);
        y.take(1);
        Edge.due("while it is by", 5, y.table(1, 6));
        Edge.due("it tilts no more", 0, y.level(1, 3));
        y.put(1, 0);
        Edge.due("put on again", 5, y.level(0, 3));
    }

    private static void change() {
        Edge.of(11, "CHANGED: true.");
        TableTower x = Edge.tower(THREE);
        Edge.due("the lowest, the highest", true, x.change(0, 2));
        Edge.order("then", x, 2, 1, 0);
        Edge.due("the higher one first", true, x.change(1, 0));
        Edge.order("then", x, 1, 2, 0);

        Edge.of(Edge.TERMS, "two LEVELS CHANGE their TABLES");
        TableTower two = Edge.tower(THREE);
        two.supper();
        two.wedge(0, 4);
        two.change(2, 0);
        Edge.order("the one between stays", two, 2, 1, 0);
        Edge.due("a WEDGE goes with its TABLE", 4, two.level(2, 3));
        Edge.due("below it is even", 0, two.level(1, 3));
        two.change(0, 2);
        Edge.order("back", two, 0, 1, 2);

        Edge.of(11, "False (STATUS 1): both are one.");
        for (int level = 0; level < 3; level++) {
            int one = level;
            Edge.refused("LEVEL " + one, x, ACTS, 0, () -> x.change(one, one) ? 1 : 0);
        }
        Edge.noSuchAndSame("both are one that there isn't", x, () -> x.change(3, 3) ? 1 : 0);
        Edge.noSuchAndSame("both are -1", x, () -> x.change(-1, -1) ? 1 : 0);
    }

    private static void wedge() {
        Edge.of(12, "A WEDGE: as it was.");
        TableTower x = Edge.tower(THREE);
        Edge.due("at first", 0, x.wedge(1, 9));
        Edge.due("then", 9, x.wedge(1, -9));
        Edge.due("now", -9, x.table(1, 6));
        Edge.due("another TABLE's", 0, x.table(0, 6));
        x.take(1);
        Edge.due("of one that is by", -9, x.wedge(1, 4));

        Edge.of(12, "-99 (STATUS 1): not -9 to 9.");
        for (int wedge : new int[] {-10, 10, Integer.MIN_VALUE, Integer.MAX_VALUE}) {
            Edge.refused("WEDGE " + wedge, x, ACTS, REFUSED, () -> x.wedge(0, wedge));
        }

        Edge.of(Edge.TERMS, "a WEDGE of a TABLE becomes another (-9 to 9; 0 at first)");
        TableTower y = Edge.tower(THREE);
        for (int wedge = -9; wedge <= 9; wedge++) {
            Edge.due("as it was", wedge == -9 ? 0 : wedge - 1, y.wedge(2, wedge));
        }
        Edge.due("ACTS", 19, y.count(9));
    }

    private static void saw() {
        Edge.of(13, "SAWN: LEAN as it was.");
        TableTower x = Edge.tower("oak 1 9 3 1;castor 1 9 -2 1;");
        Edge.due("as told", 3, x.saw(0, -9));
        Edge.due("then", -9, x.saw(0, 9));
        Edge.due("now", 9, x.table(0, 3));
        Edge.due("the WEDGE stays", 0, x.table(0, 6));
        x.take(1);
        Edge.due("of one that is by", -2, x.saw(1, 4));

        Edge.of(13, "-99 (STATUS 1): not -9 to 9.");
        for (int lean : new int[] {-10, 10, Integer.MIN_VALUE, Integer.MAX_VALUE}) {
            Edge.refused("LEAN " + lean, x, ACTS, REFUSED, () -> x.saw(0, lean));
        }

        Edge.of(Edge.TERMS, "a leg is SAWN: LEAN becomes another (-9 to 9)");
        for (int lean = -9; lean <= 9; lean++) {
            Edge.due("as it was", lean == -9 ? 4 : lean - 1, x.saw(1, lean));
        }
    }

    private static void supper() {
        Edge.of(14, "A SUPPER: CRUMBS.");
        TableTower x = Edge.tower("food 16;" + THREE);
        Edge.due("one is left", 1, x.supper());
        Edge.due("an ACT", 1, x.count(9));
        x.take(0);
        Edge.due("two eat", 6, x.supper());
        Edge.due("what is by eats nothing", 0, x.table(0, 5));
        Edge.due("without LEVELS", 100, new TableTower().supper());
        Edge.due("no FOOD", 0, Edge.tower("food 0;" + THREE).supper());
        Edge.due("all FOOD", 999 - 15, Edge.tower("food 999;" + THREE).supper());
    }

    private static void years() {
        Edge.of(15, "YEARS: how many went by in all.");
        TableTower x = Edge.tower("pine 1 999 0 1;");
        Edge.due("1", 1, x.years(1));
        Edge.due("30 more", 31, x.years(30));
        Edge.due("told", 31, x.count(8));
        Edge.due("without TABLES", 5, new TableTower().years(5));

        Edge.of(15, "NONE (STATUS 1): not 1 to 30, it would be above 999.");
        for (int many : new int[] {0, 31, -1, Integer.MIN_VALUE, Integer.MAX_VALUE, 968}) {
            Edge.refused(many + " YEARS", x, ACTS, () -> x.years(many));
        }
        for (int i = 0; i < 32; i++) {
            x.years(30);
        }
        Edge.due("991", 991, x.count(8));
        Edge.refused("1000", x, ACTS, () -> x.years(9));
        Edge.due("just 999", 999, x.years(8));
        Edge.refused("one above 999", x, ACTS, () -> x.years(1));
        Edge.refused("30 above 999", x, ACTS, () -> x.years(30));
        x.undo();
        Edge.due("999 again", 999, x.years(8));
    }

    private static void yearsTerms() {
        Edge.of(Edge.TERMS, "YEARS go by (1 to 30)");
        TableTower all = Edge.tower("oak 1 999 0 1;");
        int sum = 0;
        for (int many = 1; many <= 30; many++) {
            sum += many;
            Edge.due("in all", sum, all.years(many));
        }
        Edge.due("worm of all", 999 - 465, all.table(0, 2));
        Edge.due("0", NONE, all.years(0));
        Edge.due("31", NONE, all.years(31));

        Edge.of(Edge.TERMS, "3 from pine, 1 from oak, 2 from the others (of those that are by, too)");
        TableTower x = Edge.tower("pine 1 99 0 1;oak 1 99 0 1;folding 1 99 0 1;castor 1 99 0 1;");
        x.years(1);
        int[] one = {96, 98, 97, 97};
        for (int i = 0; i < 4; i++) {
            Edge.due("a YEAR", one[i], x.table(i, 2));
        }
        x.take(0);
        x.take(3);
        x.years(2);
        int[] three = {90, 96, 93, 93};
        for (int i = 0; i < 4; i++) {
            Edge.due("two more", three[i], x.table(i, 2));
        }
    }

    private static void undo() {
        Edge.of(16, "The last ACT is UNDONE: how many are left.");
        Edge.due("PUT", 1, undone(x -> x.take(1), x -> x.put(1, 2)));
        Edge.due("PUT below", 1, undone(x -> x.take(1), x -> x.put(1, 0)));
        Edge.due("TAKEN", 1, undone(x -> x.supper(), x -> x.take(1)));
        Edge.due("the lowest TAKEN", 1, undone(x -> x.wedge(0, 3), x -> x.take(0)));
        Edge.due("the highest TAKEN", 1, undone(x -> x.supper(), x -> x.take(2)));
        Edge.due("CHANGED", 1, undone(x -> x.supper(), x -> x.change(0, 2)));
        Edge.due("CHANGED, the higher one first", 1, undone(x -> x.supper(), x -> x.change(2, 1)));
        Edge.due("a WEDGE", 1, undone(x -> x.wedge(1, -4), x -> x.wedge(1, 9)));
        Edge.due("a WEDGE as it was", 1, undone(x -> x.wedge(1, -4), x -> x.wedge(1, -4)));
        Edge.due("SAWN", 1, undone(x -> x.saw(1, -4), x -> x.saw(1, 9)));
        Edge.due("a SUPPER", 1, undone(x -> x.take(0), x -> x.supper()));
        Edge.due("another SUPPER", 1, undone(x -> x.supper(), x -> x.supper()));
        Edge.due("YEARS", 1, undone(x -> x.years(3), x -> x.years(30)));

        Edge.of(16, "NONE: there is none.");
        TableTower x = Edge.tower(THREE);
        Edge.telling("none yet", x, NONE, x::undo);
        x.take(0);
        Edge.due("one", 0, x.undo());
        Edge.telling("none any more", x, NONE, x::undo);
        Edge.due("no STATUS", 0, x.count(13));
        x.put(0, 0);
        x.wedge(0, 10);
        Edge.due("what is refused is no ACT", NONE, x.undo());
        Edge.due("a new object", NONE, new TableTower().undo());

        Edge.of(Edge.TERMS, "They are UNDONE, the last one first.");
        lastFirst();
    }

    private interface Act {
        void on(TableTower x);
    }

    /** What undo answers behind two ACTS; all must be as it was between them. */
    private static int undone(Act first, Act second) {
        TableTower x = Edge.tower("food 12;oak 1 50 1 5;castor 2 50 2 5;pine 3 50 -3 5;");
        first.on(x);
        List<Integer> before = Edge.shot(x);
        second.on(x);
        int left = x.undo();
        Edge.same("as it was before", before, Edge.shot(x));
        return left;
    }

    private static void lastFirst() {
        TableTower x = Edge.tower("food 12;oak 1 50 1 5;castor 2 50 2 5;pine 3 50 -3 5;");
        Act[] acts = {y -> y.supper(), y -> y.take(1), y -> y.supper(), y -> y.put(1, 0), y -> y.change(0, 2),
            y -> y.wedge(1, 5), y -> y.saw(1, 5), y -> y.years(4), y -> y.supper(), y -> y.take(0)};
        for (int many = 1; many <= acts.length; many++) {
            TableTower fewer = Edge.tower("food 12;oak 1 50 1 5;castor 2 50 2 5;pine 3 50 -3 5;");
            for (int i = 0; i < acts.length; i++) {
                acts[i].on(fewer);
            }
            for (int i = acts.length; i > many - 1; i--) {
                Edge.due("left", i - 1, fewer.undo());
            }
            Edge.same("before ACT " + many, Edge.shot(x), Edge.shot(fewer));
            acts[many - 1].on(x);
        }
    }

    private static void actsKept() {
        Edge.of(Edge.TERMS, "ACTS (at most 40 are kept, the latest ones)");
        TableTower x = Edge.tower("oak 1 1 0 1;");
        for (int i = 1; i <= 39; i++) {
            x.wedge(0, i % 10);
        }
        Edge.due("39", 39, x.count(9));
        x.saw(0, 7);
        Edge.due("40", 40, x.count(9));
        x.supper();
        Edge.due("41", 40, x.count(9));
        x.years(2);
        Edge.due("42", 40, x.count(9));
        x.saw(0, 10);
        Edge.due("one that is refused", 40, x.count(9));
        Edge.due("undo", 39, x.undo());
        Edge.due("YEARS", 0, x.count(8));
        Edge.due("undo", 38, x.undo());
        Edge.due("MEAL", 0, x.table(0, 5));
        Edge.due("undo", 37, x.undo());
        Edge.due("LEAN", 0, x.table(0, 3));
        for (int left = 36; left >= 0; left--) {
            Edge.due("undo", left, x.undo());
        }
        // The first two of all are not kept: the WEDGE is as the second one made it.
        Edge.due("the oldest stay", 2, x.table(0, 6));
        Edge.due("none is left", NONE, x.undo());
        for (int i = 0; i < 40; i++) {
            x.supper();
        }
        Edge.due("40 SUPPERS", 40, x.count(9));
    }

    private static void see() {
        Edge.of(38, "SEEN: how much is.");
        TableTower x = Edge.tower(THREE);
        Edge.due("one", 1, x.see(0, 0));
        Edge.due("as often as one likes", 2, x.see(0, 0));
        Edge.due("no ACT", 0, x.count(9));

        Edge.of(38, "NONE (STATUS 2): there are 8, no such LEVEL, TILT.");
        Edge.refused("LEVEL 3 of 3", x, SIGHTS, () -> x.see(3, 0));
        Edge.refused("LEVEL -1", x, SIGHTS, () -> x.see(-1, 0));
        Edge.refused("TILT 100", x, SIGHTS, () -> x.see(0, 100));
        Edge.refused("TILT -100", x, SIGHTS, () -> x.see(0, -100));
        Edge.refused("the least", x, SIGHTS, () -> x.see(Integer.MIN_VALUE, Integer.MIN_VALUE));
        for (int i = 3; i <= 8; i++) {
            Edge.due("see", i, x.see(2, 0));
        }
        Edge.refused("there are 8", x, SIGHTS, () -> x.see(0, 0));
        TableTower none = new TableTower();
        Edge.refused("without LEVELS", none, SIGHTS, () -> none.see(0, 0));

        Edge.of(Edge.TERMS, "SEEN (at most 8): that a LEVEL has so much TILT (-99 to 99)");
        TableTower y = Edge.tower(THREE);
        int[] tilts = {99, -99, 0, 1, -1, 98, -98, 50};
        for (int i = 0; i < 8; i++) {
            Edge.due("see " + tilts[i], i + 1, y.see(i % 3, tilts[i]));
        }
        Edge.due("SEEN", 8, y.count(10));
        Edge.due("a ninth", NONE, y.see(0, 0));
        Edge.due("SEEN", 8, y.count(10));
        y.forget();
        Edge.due("there is room again", 1, y.see(0, 0));
    }

    private static void forget() {
        Edge.of(41, "All that is SEEN is forgotten.");
        TableTower x = Edge.tower(THREE);
        x.see(0, 5);
        x.see(1, 7);
        x.see(9, 9);
        Edge.due("not so without", 0, x.which(2));
        x.forget();
        Edge.due("SEEN", 0, x.count(10));
        Edge.due("so without", 1, x.which(2));
        Edge.due("STATUS 2 stays", 1, x.count(14));
        List<Integer> before = Edge.shot(x);
        x.forget();
        Edge.same("nothing to forget", before, Edge.shot(x));
        Edge.due("what comes then is SEEN", 1, x.see(2, 3));
        Edge.due("what was is not", 0, x.which(2));
        Edge.due("by 3 more: each of three TABLES", 3, x.which(0));
    }

    private static void status() {
        Edge.of(Edge.TERMS, "STATUS: how many calls were refused: 0 TEXTS with a FAULT, 1 ACTS, 2 what is SEEN");
        TableTower x = Edge.tower(THREE);
        int[] want = new int[3];
        for (int round = 1; round <= 3; round++) {
            Check.tell(x, "x");
            want[0]++;
            x.put(0, 0);
            x.change(1, 1);
            x.wedge(0, 10);
            x.saw(0, 10);
            x.years(0);
            want[1] += 5;
            x.take(2);
            x.take(2);
            x.put(2, 2);
            want[1]++;
            x.see(3, 0);
            want[2]++;
            for (int status = 0; status < 3; status++) {
                Edge.due("STATUS " + status, want[status], x.count(12 + status));
            }
        }
        x.undo();
        Edge.due("undo leaves it", want[1], x.count(13));
        // What is refused elsewhere is counted nowhere.
        TableTower y = new TableTower();
        y.undo();
        y.restore();
        for (int i = 0; i < 31; i++) {
            y.feed(0, 0, 0, 0, 0);
        }
        for (int status = 12; status <= 14; status++) {
            Edge.due("STATUS", 0, y.count(status));
        }
    }

    private static void image() {
        Edge.of(44, "AN IMAGE is kept, in place of another one.");
        TableTower x = Edge.tower(THREE);
        x.wedge(0, 1);
        x.image();
        x.wedge(0, 2);
        List<Integer> before = Edge.shot(x);
        x.image();
        Edge.same("nothing is otherwise", before, Edge.shot(x));
        x.wedge(0, 3);
        Edge.due("restore", true, x.restore());
        Edge.due("the latest", 2, x.table(0, 6));
        x.wedge(0, 4);
        Edge.due("restore again", true, x.restore());
        Edge.due("it stays", 2, x.table(0, 6));
        TableTower none = new TableTower();
        none.image();
        none.years(3);
        Edge.due("without TABLES", true, none.restore());
        Edge.due("without TABLES", 0, none.count(8));
    }

    private static void restore() {
        Edge.of(45, "It is as the IMAGE again: true.");
        TableTower x = eventful();
        x.image();
        List<Integer> before = Edge.shot(x);
        eventfulOnceMore(x);
        Edge.due("restore", true, x.restore());
        List<Integer> after = Edge.shot(x);
        // The place of the FAULT is no part of it; the tape is empty both times.
        after.set(15, before.get(15));
        Edge.same("as it was", before, after);

        Edge.of(Edge.TERMS, "AN IMAGE keeps THE TOWER, MEALS, WEDGES, LEANS, worm, ACTS that are kept, what is SEEN, STATUS");
        keptOneByOne();
        x.undo();
        x.undo();
        x.undo();
        x.years(30);
        x.change(0, 1);
        x.supper();
        // ACTS of other kinds stand in place of those that the image keeps.
        Edge.due("restore again", true, x.restore());
        TableTower same = eventful();
        for (int left = x.count(9) - 1; left >= 0; left--) {
            Edge.due("undo", left, x.undo());
            same.undo();
            List<Integer> want = Edge.shot(same);
            List<Integer> got = Edge.shot(x);
            got.set(15, want.get(15));
            Edge.same("undone as without an image", want, got);
        }

        Edge.of(45, "False: there is none.");
        Edge.due("a new object", false, new TableTower().restore());
        TableTower none = Edge.tower(THREE);
        none.wedge(0, 4);
        Edge.telling("none yet", none, 0, () -> none.restore() ? 1 : 0);
        none.image();
        Check.tell(none, THREE);
        Edge.telling("gone by a town()", none, 0, () -> none.restore() ? 1 : 0);
        none.image();
        Check.tell(none, "x");
        Edge.due("not by one with a FAULT", true, none.restore());
    }

    private static TableTower eventful() {
        TableTower x = Edge.tower("food 12;oak 1 50 1 5;castor 2 50 2 5;pine 3 50 -3 5;");
        x.supper();
        x.take(1);
        x.wedge(0, 2);
        x.saw(2, 4);
        x.years(5);
        x.see(0, 3);
        x.see(1, 7);
        x.put(0, 0);
        x.see(9, 9);
        Check.tell(x, "x");
        return x;
    }

    private static void eventfulOnceMore(TableTower x) {
        x.put(1, 0);
        x.change(0, 2);
        x.wedge(0, -2);
        x.wedge(1, -3);
        x.saw(2, -4);
        x.years(6);
        x.forget();
        x.see(1, 1);
        x.put(0, 0);
        x.see(9, 9);
        x.take(0);
        x.supper();
        Check.tell(x, "  y");
    }

    private static void keptOneByOne() {
        kept("THE TOWER", x -> x.change(0, 1));
        kept("what is by", x -> x.put(1, 0));
        kept("MEALS", x -> x.supper());
        kept("WEDGES", x -> x.wedge(0, 9));
        kept("LEANS", x -> x.saw(0, 9));
        kept("worm", x -> x.years(9));
        kept("ACTS", x -> x.undo());
        kept("SEEN", x -> x.forget());
        kept("more SEEN", x -> x.see(0, 0));
        kept("STATUS 1", x -> x.put(0, 0));
        kept("STATUS 2", x -> x.see(9, 9));
        kept("STATUS 0", x -> Check.tell(x, "x"));
    }

    private static void kept(String what, Act act) {
        TableTower x = eventful();
        x.image();
        List<Integer> before = Edge.shot(x);
        act.on(x);
        Edge.due(what + " is otherwise", false, before.equals(Edge.shot(x)));
        x.restore();
        Edge.same(what, before, Edge.shot(x));
    }
}
