/** Every call of the face on an object without TABLES, on one whose TABLES are all by, and on one with ten. */
final class EmptyEdges {
    private static final int NONE = TableTower.NONE;
    private static final int SIGHTS = 2;

    private EmptyEdges() {
    }

    static void all() {
        withoutTables();
        allAreBy();
        tenTables();
    }

    private static void counts(TableTower x, int... want) {
        for (int what = 0; what < want.length; what++) {
            Edge.due("count(" + what + ")", want[what], x.count(what));
        }
    }

    /** What is told alike of each TOWER without LEVELS. */
    private static void withoutLevels(TableTower x) {
        Edge.due("more", 9999, x.more());
        Edge.due("orders", 1, x.orders());
        Edge.due("wedges", 0, x.wedges());
        Edge.due("when", NONE, x.when());
        Edge.due("fair", 0, x.fair());
        Edge.due("oneWedge", NONE, x.oneWedge());
        Edge.due("lifted", 1, x.lifted(0, 0));
        Edge.due("lifted", 1, x.lifted((1 << x.count(0)) - 1, 10));
        Edge.due("swap", NONE, x.swap());
        Edge.due("broken", NONE, x.broken(0));
        Edge.due("broken", NONE, x.broken(99));
        Edge.due("crooked", NONE, x.crooked());
        Edge.due("top", NONE, x.top(0));
        Edge.due("top", NONE, x.top(999));
        Edge.due("relief", NONE, x.relief());
        Edge.due("hungriest", NONE, x.hungriest());
        Edge.due("which(0)", 0, x.which(0));
        Edge.due("which(1)", NONE, x.which(1));
        Edge.due("which(2)", 1, x.which(2));
        Edge.due("look", NONE, x.look());
        Edge.due("game(0)", 0, x.game(0));
        Edge.due("game(1)", NONE, x.game(1));
        Edge.due("decades(0)", 40, x.decades(7, 40, 0));
        Edge.due("decades(1)", NONE, x.decades(7, 40, 1));
        Edge.due("decades(2)", 0, x.decades(7, 40, 2));
        Edge.noSuch("level", () -> x.level(0, 0));
        Edge.noSuch("slack", () -> x.slack(0));
        Edge.noSuch("change", () -> x.change(0, 1) ? 1 : 0);
        Edge.noSuch("change", () -> x.change(0, 0) ? 1 : 0);
        Edge.noSuch("nod", () -> x.nod(0, 0));
        Edge.noSuch("out", () -> x.out(0));
        Edge.refused("see", x, SIGHTS, () -> x.see(0, 0));
    }

    private static void withoutTables() {
        Edge.of(1, "`TableTower()`: No TABLES.");
        TableTower x = new TableTower();
        counts(x, 0, 0, 9, 100, 1, NONE, NONE, 0, 0, 0, 0, 0, 0, 0, 0);
        Edge.due("fault", NONE, x.fault());
        Edge.due("by", 0, x.by());
        withoutLevels(x);
        Edge.due("most(0)", 0, x.most(0));
        Edge.due("most(1)", 0, x.most(1));
        Edge.due("marriages", 0, x.marriages());
        Edge.noSuch("row", () -> x.row(0));
        Edge.noSuch("table", () -> x.table(0, 0));
        Edge.noSuch("put", () -> x.put(0, 0));
        Edge.noSuch("take", () -> x.take(0));
        Edge.noSuch("wedge", () -> x.wedge(0, 0));
        Edge.noSuch("saw", () -> x.saw(0, 0));
        Edge.noSuch("without", () -> x.without(0) ? 1 : 0);
        Edge.noSuch("marry", () -> x.marry(0, 1) ? 1 : 0);
        Edge.wrong("lifted", () -> x.lifted(1, 0));
        Edge.due("undo", NONE, x.undo());
        Edge.due("restore", false, x.restore());
        Edge.due("supper", 100, x.supper());
        Edge.due("years", 30, x.years(30));
        x.image();
        Edge.due("undo YEARS", 1, x.undo());
        Edge.due("undo a SUPPER", 0, x.undo());
        Edge.due("restore", true, x.restore());
        counts(x, 0, 0, 9, 100, 1, NONE, 100, 0, 30, 2, 0, 0, 0, 0, 1);
        x.forget();
        Edge.due("feed", 20, x.feed(0, 0, 0, 0, 0));
        Edge.due("town", 1, x.town(20));
    }

    private static void allAreBy() {
        Edge.of(Edge.TERMS, "what isn't in it is by");
        TableTower x = Edge.tower("limit 0;oak 5 0 0 7;castor 6 3 -9 8;");
        x.take(0);
        x.take(1);
        counts(x, 2, 0, 0, 100, 1, NONE, NONE, 0, 0, 2, 0, 0, 0, 0, 0);
        Edge.due("by", 3, x.by());
        withoutLevels(x);
        Edge.due("most(0), of all TABLES", 1, x.most(0));
        Edge.due("most(1), of all TABLES", 1, x.most(1));
        Edge.due("row(0)", 0, x.row(0));
        Edge.due("marriages, of all TABLES", 0, x.marriages());
        Edge.due("marry", false, x.marry(0, 1));
        Edge.due("without", false, x.without(0));
        Edge.due("table, its LEVEL", NONE, x.table(1, 7));
        Edge.refused("take", x, 1, () -> x.take(0));
        Edge.refused("put", x, 1, () -> x.put(0, 1));
        Edge.due("supper", 100, x.supper());
        Edge.due("no MEAL", 0, x.table(0, 5));
        Edge.due("wedge", 0, x.wedge(0, 3));
        Edge.due("saw", -9, x.saw(1, 3));
        Edge.due("years", 1, x.years(1));
        Edge.due("worm", 1, x.table(1, 2));
        Edge.due("put", 1, x.put(1, 0));
        Edge.order("it is in it", x, 1);
        Edge.due("by", 1, x.by());
    }

    private static void tenTables() {
        Edge.of(Edge.TERMS, "(at most 10)");
        TableTower x = Edge.tower("food 999;" + "oak 1 99 0 5;".repeat(10));
        counts(x, 10, 10, 9, 999, 1, NONE, NONE, 0, 0, 0, 0, 0, 0, 0, 0);
        Edge.due("more", 90, x.more());
        Edge.due("supper", 949, x.supper());
        Edge.due("FULL", 1023, x.count(7));
        Edge.due("LOAD", 9 + 50, x.level(0, 1));
        Edge.due("LOAD at the top", 5, x.level(9, 1));
        Edge.due("slack", 94, x.slack(9));
        Edge.due("without", true, x.without(9));
        Edge.due("nod", 0, x.nod(9, 41));
        Edge.due("nod", NONE, x.nod(9, 40));
        Edge.due("out", 0, x.out(9));
        Edge.due("top", 5, x.top(50));
        Edge.due("top", 4, x.top(49));
        Edge.due("fair", 50, x.fair());
        // Each is like the others: without the lowest one there is a MEAL and a WEIGHT less below.
        Edge.due("relief", 0, x.relief());
        Edge.due("hungriest", NONE, x.hungriest());
        Edge.due("oneWedge", NONE, x.oneWedge());
        Edge.due("which(0)", 180, x.which(0));
        // At LEVEL i - 1 there are the 18 LEANS, and as it is, but not at the highest.
        Edge.due("look", 0, x.look());
        Edge.due("game", 99, x.game(1));
        Edge.due("crooked", 0, x.crooked());
        Edge.due("swap", NONE, x.swap());
        Edge.due("when", 41, x.when());
        Edge.due("broken", 0, x.broken(41));
        Edge.due("take", 9, x.take(9));
        Edge.due("by", 512, x.by());
        Edge.due("put", 10, x.put(9, 0));
        Edge.order("the tenth is the lowest", x, 9, 0, 1, 2, 3, 4, 5, 6, 7, 8);
        Edge.due("change", true, x.change(0, 9));
        Edge.order("8 is the lowest", x, 8, 0, 1, 2, 3, 4, 5, 6, 7, 9);
        Edge.due("see", 1, x.see(9, 9));
        Edge.due("which(1)", 859, x.which(1));
    }
}
