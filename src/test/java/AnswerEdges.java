/** Edges of what is told of THE TOWER without changing it: MORE to A SWAP, SLACK to THE HUNGRIEST. */
final class AnswerEdges {
    private static final int NONE = TableTower.NONE;
    private static final String THREE = "oak 1 50 0 5;oak 2 50 0 5;oak 3 50 0 5;";
    private static final String FOUR = "limit 3;food 20;oak 10 30 1 5;pine 5 20 -2 8;folding 4 20 0 6;castor 2 15 1 9;"
        + "takes hunger-level;";

    private AnswerEdges() {
    }

    static void all() {
        more();
        without();
        most();
        mostOfAll();
        row();
        orders();
        wedges();
        when();
        marriages();
        marry();
        nod();
        fair();
        out();
        oneWedge();
        lifted();
        swap();
        slack();
        broken();
        crooked();
        top();
        relief();
        hungriest();
    }

    private static void more() {
        Edge.of(17, "MORE; NONE: it doesn't stand.");
        Edge.due("loaded too much", NONE, Edge.tower("oak 1 0 0 1;oak 1 9 0 1;").more());
        Edge.due("leans too much", NONE, Edge.tower("limit 0;oak 1 9 0 1;oak 1 9 1 1;").more());
        TableTower x = Edge.tower(FOUR);
        Edge.telling("30 - 11, 20 - 6, 10 - 2, 15", x, 8, x::more);

        Edge.of(Edge.TERMS, "the most that could be put on it still, so that it STANDS");
        TableTower just = Edge.tower("oak 1 9 0 0;oak 1 99 0 8;");
        Edge.due("8", 8, just.more());
        Edge.due("by 8 it stands", NONE, just.nod(1, 8));
        Edge.due("by 9 it doesn't", 0, just.nod(1, 9));
        just.supper();
        Edge.due("nothing more", 0, just.more());

        Edge.of(Edge.TERMS, "(0 to 9999; it comes to the LOAD of each LEVEL, the highest one's too; nothing else is otherwise)");
        Edge.due("0", 0, Edge.tower("oak 1 1 0 1;oak 1 9 0 1;").more());
        Edge.due("without LEVELS", 9999, new TableTower().more());
        Edge.due("the most of a TABLE", 999, Edge.tower("oak 1 999 0 1;").more());
        Edge.due("the lowest one's", 3, Edge.tower("oak 1 5 0 1;oak 1 99 0 1;oak 1 99 0 1;").more());
        Edge.due("the middle one's", 4, Edge.tower("oak 1 99 0 1;oak 1 5 0 1;oak 1 99 0 1;").more());
        Edge.due("the highest one's", 5, Edge.tower("oak 1 99 0 1;oak 1 99 0 1;oak 1 5 0 1;").more());
        Edge.due("a folding one is at the top still", 9, Edge.tower("folding 1 9 0 1;").more());
        TableTower y = Edge.tower("oak 1 9 0 4;");
        y.supper();
        Edge.due("its own MEAL counts", 5, y.more());
    }

    private static void without() {
        Edge.of(18, "(false of one that is by)");
        TableTower x = Edge.tower(THREE);
        Edge.due("of THE TOWER", true, x.without(2));
        x.take(2);
        Edge.telling("by", x, 0, () -> x.without(2) ? 1 : 0);
        Edge.noSuch("TABLE 3", () -> x.without(3) ? 1 : 0);
        Edge.noSuch("TABLE -1", () -> x.without(-1) ? 1 : 0);

        Edge.of(Edge.TERMS, "whether it would stand, were that one taken off");
        TableTower y = Edge.tower("limit 4;oak 9 9 4 1;folding 5 4 -4 1;oak 4 9 4 1;");
        Edge.due("4 on 2", false, y.without(0));
        Edge.due("TILT 8", false, y.without(1));
        Edge.due("a folding one is at the top then", true, y.without(2));
        Edge.order("nothing is otherwise", y, 0, 1, 2);
        Edge.due("nothing is left", true, Edge.tower("limit 0;oak 1 1 9 1;").without(0));
        TableTower z = Edge.tower("oak 1 5 0 1;oak 1 9 0 9;");
        z.supper();
        Edge.due("10 and 1 on 5", 0, z.count(4));
        Edge.due("its MEAL goes with it", true, z.without(1));
    }

    private static void most() {
        Edge.of(19, "how many (what 0), as bits (1)");
        TableTower x = Edge.tower("oak 99 0 0 1;oak 1 1 0 1;oak 1 1 0 1;");
        // 0 bears nothing, and nothing bears it.
        Edge.telling("1 and 2: how many", x, 2, () -> x.most(0));
        Edge.telling("1 and 2: as bits", x, 6, () -> x.most(1));
        Edge.due("without TABLES", 0, new TableTower().most(0));
        Edge.due("without TABLES", 0, new TableTower().most(1));
        TableTower none = Edge.tower("limit 8;oak 1 9 9 1;");
        Edge.due("none can stand", 0, none.most(0));
        Edge.due("none can stand", 0, none.most(1));
        TableTower ten = Edge.tower("oak 1 9 0 1;".repeat(10));
        Edge.due("ten", 10, ten.most(0));
        Edge.due("ten", 1023, ten.most(1));

        Edge.of(19, "another what");
        for (int what : new int[] {-1, 2, Integer.MIN_VALUE, Integer.MAX_VALUE}) {
            Edge.noSuchAndSame("what " + what, x, () -> x.most(what));
        }

        Edge.of(Edge.TERMS, "of like ones the least as bits");
        Edge.due("two of three, any", 3, Edge.tower("oak 1 1 0 1;oak 1 1 0 1;oak 1 1 0 1;").most(1));
        // 0 and 1 don't bear one another, both bear 2.
        Edge.due("0 and 2, 1 and 2", 5, Edge.tower("oak 5 1 0 1;oak 5 1 0 1;oak 1 1 0 1;").most(1));
        Edge.due("one of three", 1, Edge.tower("oak 5 1 0 1;oak 5 1 0 1;oak 5 1 0 1;").most(1));
        // LIMIT 0 and LEANS 9, 0, 0: the first one is in none.
        Edge.due("1 and 2", 6, Edge.tower("limit 0;oak 1 1 9 1;oak 1 1 0 1;oak 1 1 0 1;oak 1 1 0 1;").most(1));
    }

    private static void mostOfAll() {
        Edge.of(Edge.TERMS, "of all TABLES (MEALS and WEDGES as they are) the most that can stand as a TOWER in some order");
        TableTower x = Edge.tower("oak 5 0 0 1;oak 1 5 0 1;oak 9 6 0 1;");
        Edge.due("as it is, it doesn't stand", 0, x.count(4));
        Edge.due("in another order", 3, x.most(0));
        x.take(2);
        x.take(0);
        Edge.due("those that are by, too", 7, x.most(1));
        x.years(1);
        // 5 - 1 and 6 - 1: 1 doesn't bear 0, 2 doesn't bear both.
        Edge.due("worm as it is", 5, x.most(1));
        x.undo();
        Edge.due("undone", 7, x.most(1));
        TableTower y = Edge.tower("limit 0;oak 1 9 0 9;oak 1 9 0 9;oak 1 9 0 9;");
        y.wedge(0, 1);
        Edge.due("WEDGES", 6, y.most(1));
        y.wedge(1, -1);
        // 0 and 1 are even together, but the lower one of them isn't.
        Edge.due("TILT of each LEVEL", 4, y.most(1));
        TableTower z = Edge.tower("food 10;oak 1 9 0 10;oak 1 9 0 1;");
        Edge.due("no MEALS", 3, z.most(1));
        z.supper();
        Edge.due("MEALS", 2, z.most(1));
        z.saw(1, 9);
        z.wedge(1, 1);
        Edge.due("LEANS", 0, z.most(1));
        TableTower folding = Edge.tower("folding 9 18 0 1;folding 9 10 0 1;");
        Edge.row("a folding one below carries half", folding, 0, 1);
        folding.saw(1, 1);
        folding.change(0, 1);
        Edge.row("whatever THE TOWER is", folding, 0, 1);
        TableTower half = Edge.tower("folding 9 17 0 1;folding 9 10 0 1;");
        Edge.due("neither carries 9 by half", 1, half.most(1));
        TableTower top = Edge.tower("folding 1 9 0 9;oak 9 99 0 1;");
        top.supper();
        Edge.row("a folding one at the top carries all", top, 1, 0);
        TableTower fed = Edge.tower("oak 1 10 0 1;oak 5 10 0 6;");
        Edge.row("no MEALS yet", fed, 0, 1);
        fed.supper();
        // 5 and 6 and its own 1 are more than 10; the other way it is 1 and 1 and its own 6.
        Edge.row("MEALS of those above", fed, 1, 0);
        TableTower again = Edge.tower("limit 0;oak 1 9 0 1;");
        Edge.due("one", 1, again.most(1));
        again.image();
        again.wedge(0, 1);
        Edge.due("none", 0, again.most(1));
        again.restore();
        Edge.due("restored", 1, again.most(1));
        Check.tell(again, "limit 0;oak 1 9 1 1;oak 1 9 0 1;");
        Edge.due("another town", 2, again.most(1));
    }

    private static void row() {
        Edge.of(20, "The TABLE on the i-th LEVEL of THE MOST's row.");
        TableTower x = Edge.tower("oak 5 0 0 1;oak 1 5 0 1;oak 9 6 0 1;");
        Edge.due("row() before most()", 2, x.row(0));
        Edge.row("one order alone", x, 2, 1, 0);
        x.years(1);
        Edge.due("row() behind a YEAR", 0, x.row(1));
        x.undo();
        Edge.telling("row", x, 1, () -> x.row(1));

        Edge.of(20, "NoSuchElementException: there is none.");
        for (int i : new int[] {-1, 3, 10, Integer.MIN_VALUE, Integer.MAX_VALUE}) {
            Edge.noSuchAndSame("row " + i, x, () -> x.row(i));
        }
        Edge.noSuch("without TABLES", () -> new TableTower().row(0));
        TableTower none = Edge.tower("limit 8;oak 1 9 9 1;");
        Edge.noSuch("none can stand", () -> none.row(0));
        TableTower two = Edge.tower("oak 5 1 0 1;oak 5 1 0 1;oak 1 1 0 1;");
        Edge.row("two of three", two, 0, 2);
        Edge.noSuch("two of three", () -> two.row(2));

        Edge.of(Edge.TERMS, "the first such row (LEVELS from below)");
        Edge.row("all orders", Edge.tower(THREE), 0, 1, 2);
        // 0 alone can't bear two: 1 0 2, 1 2 0, 2 0 1, 2 1 0.
        Edge.row("from below", Edge.tower("oak 1 1 0 1;oak 1 2 0 1;oak 1 2 0 1;"), 1, 0, 2);
        // LIMIT 1, LEANS 1, 1, -1: 0 2 1, 1 2 0, 2 0 1, 2 1 0.
        Edge.row("by TILT", Edge.tower("limit 1;oak 1 9 1 1;oak 1 9 1 1;oak 1 9 -1 1;"), 0, 2, 1);
        TableTower x2 = Edge.tower(THREE);
        x2.change(0, 2);
        Edge.row("whatever THE TOWER is", x2, 0, 1, 2);
    }

    private static void orders() {
        Edge.of(21, "ORDERS.");
        TableTower x = Edge.tower(THREE);
        Edge.telling("all", x, 6, x::orders);
        Edge.due("none", 0, Edge.tower("limit 0;oak 1 9 1 1;").orders());
        Edge.due("one", 1, Edge.tower("oak 1 9 1 1;").orders());
        Edge.due("without LEVELS", 1, new TableTower().orders());
        Edge.due("ten", 3628800, Edge.tower("oak 1 9 0 1;".repeat(10)).orders());

        Edge.of(Edge.TERMS, "in how many orders those that are in THE TOWER now can stand");
        x.take(1);
        Edge.due("of those in THE TOWER", 2, x.orders());
        x.take(0);
        x.take(2);
        Edge.due("all are by", 1, x.orders());
        // + - +, - + +, and the two of + are two.
        Edge.due("by TILT", 4, Edge.tower("limit 3;oak 1 9 3 1;oak 1 9 3 1;oak 1 9 -3 1;").orders());
        Edge.due("by LOAD", 1, Edge.tower("oak 5 0 0 1;oak 1 5 0 1;oak 9 6 0 1;").orders());
        Edge.due("the highest one's LOAD is its MEAL", 1, Edge.tower("oak 5 0 0 1;").orders());
        TableTower y = Edge.tower("oak 5 0 0 1;");
        y.supper();
        Edge.due("the highest one's LOAD is its MEAL", 0, y.orders());
        TableTower fed = Edge.tower("oak 1 10 0 1;oak 5 10 0 6;");
        Edge.due("no MEALS yet", 2, fed.orders());
        fed.supper();
        Edge.due("MEALS of those above", 1, fed.orders());
        Edge.due("a folding one below carries half", 1, Edge.tower("folding 9 18 0 1;folding 9 17 0 1;").orders());
        TableTower top = Edge.tower("folding 1 9 0 9;oak 9 99 0 1;");
        top.supper();
        Edge.due("a folding one at the top carries all", 1, top.orders());
    }

    private static void wedges() {
        Edge.of(22, "WEDGES; NONE: none.");
        Edge.due("without LEVELS none is needed", 0, new TableTower().wedges());
        Edge.due("none is needed", 0, Edge.tower(THREE).wedges());
        // It is never NONE: a WEDGE against each LEAN makes all TILTS 0.
        Edge.due("against each LEAN", 90, Edge.tower("limit 0;" + "oak 1 9 -9 1;castor 1 9 9 1;".repeat(5)).wedges());

        Edge.of(Edge.TERMS, "the fewest, together without sign, by which (in place of all that there are in THE TOWER;"
            + " -9 to 9 each) TILTS of all LEVELS are within LIMIT");
        TableTower x = Edge.tower("limit 2;oak 1 9 5 1;oak 1 9 -5 1;");
        // By -3 it is at 2, then at -3: 1 more.
        Edge.telling("without sign, each LEVEL", x, 4, x::wedges);
        x.wedge(0, 9);
        Edge.due("in place of those that there are", 4, x.wedges());
        x.take(1);
        Edge.due("in THE TOWER", 3, x.wedges());
        Edge.due("just within LIMIT", 0, Edge.tower("limit 9;oak 1 9 9 1;").wedges());
        Edge.due("just outside", 1, Edge.tower("limit 8;oak 1 9 -9 1;").wedges());
        Edge.due("a castor's count twice", 4, Edge.tower("limit 2;castor 1 9 5 1;").wedges());
        Edge.due("a castor and an odd LIMIT", 5, Edge.tower("limit 1;castor 1 9 5 1;").wedges());
        Edge.due("LIMIT 40", 5, Edge.tower("limit 40;" + "oak 1 9 9 1;".repeat(5)).wedges());
        Edge.due("40 below 0", 5, Edge.tower("limit 40;" + "oak 1 9 -9 1;".repeat(5)).wedges());
        Edge.due("40, and on", 0, Edge.tower("limit 40;" + "oak 1 9 9 1;".repeat(4) + "oak 1 9 4 1;oak 1 9 0 1;").wedges());
        Edge.due("40 below 0, and on", 0,
            Edge.tower("limit 40;" + "oak 1 9 -9 1;".repeat(4) + "oak 1 9 -4 1;oak 1 9 0 1;").wedges());
        Edge.due("9 more", 14, Edge.tower("limit 40;" + "oak 1 9 9 1;".repeat(6)).wedges());
        Edge.due("9 more below 0", 14, Edge.tower("limit 40;" + "oak 1 9 -9 1;".repeat(6)).wedges());
        // 18 and 81: 59 too much. The castor takes off 18 by 9, what is left comes one by one.
        Edge.due("-9 to 9 each", 9 + 41, Edge.tower("limit 40;castor 1 9 9 1;" + "oak 1 9 9 1;".repeat(9)).wedges());
        Edge.due("LOADS count for nothing", 0, Edge.tower("oak 1 0 0 1;oak 1 0 0 1;").wedges());
    }

    private static void when() {
        Edge.of(23, "WHEN (0: it doesn't stand now); NONE: none.");
        Edge.due("loaded too much", 0, Edge.tower("oak 1 0 0 1;oak 1 9 0 1;").when());
        Edge.due("loaded far too much", 0, Edge.tower("oak 1 0 0 1;oak 9 9 0 1;").when());
        Edge.due("leans too much", 0, Edge.tower("limit 0;oak 1 9 1 1;").when());
        Edge.due("never", NONE, Edge.tower("pine 1 0 0 1;").when());
        Edge.due("without LEVELS", NONE, new TableTower().when());

        Edge.of(Edge.TERMS, "in how many YEARS (0 to 99) THE TOWER, that stands now, doesn't any more, if only YEARS go by");
        TableTower x = Edge.tower("pine 1 10 0 1;oak 1 99 0 1;");
        // 10 - 9 bears 1, 10 - 12 doesn't.
        Edge.telling("4", x, 4, x::when);
        x.years(3);
        Edge.due("from now on 1", 1, x.when());
        x.years(1);
        Edge.due("from now on 0", 0, x.when());
        Edge.due("99", 99, Edge.tower("oak 1 99 0 1;oak 1 0 0 1;").when());
        Edge.due("100", NONE, Edge.tower("oak 1 100 0 1;oak 1 0 0 1;").when());
    }

    private static void marriages() {
        Edge.of(24, "MARRIAGES: the most at once.");
        Edge.due("without TABLES", 0, new TableTower().marriages());
        Edge.due("one", 0, Edge.tower("oak 1 9 0 1;").marriages());
        // A row of four, 0 1 2 3: 1 and 2 must not stand in the way of 0 and 1, 2 and 3.
        TableTower x = Edge.tower("oak 9 5 0 1;oak 5 9 0 1;oak 5 9 0 1;oak 9 5 0 1;");
        x.orders();
        Edge.telling("two", x, 2, x::marriages);
        TableTower three = Edge.tower(THREE);
        Edge.due("six orders", 6, three.orders());
        Edge.due("one couple of three", 1, three.marriages());
        TableTower single = Edge.tower("oak 9 5 0 1;oak 9 5 0 1;oak 9 5 0 1;");
        single.take(0);
        single.take(1);
        Edge.due("one order", 1, single.orders());
        Edge.due("no couple", 0, single.marriages());
        Edge.due("five of ten", 5, Edge.tower("oak 1 9 0 1;".repeat(10)).marriages());
        Edge.due("four of nine", 4, Edge.tower("oak 1 9 0 1;".repeat(9)).marriages());

        Edge.of(Edge.TERMS, "two TABLES (of all) can MARRY");
        TableTower by = Edge.tower(THREE);
        by.take(0);
        by.take(2);
        Edge.due("both are by", true, by.marry(0, 2));
        Edge.due("one is by", true, by.marry(2, 1));
        Edge.due("of all", 1, by.marriages());

        Edge.of(Edge.TERMS, "the most couples at once, each TABLE in one at most");
        Edge.due("all with 0 alone", 1, Edge.tower("oak 3 9 0 1;oak 4 3 0 1;oak 4 3 0 1;oak 4 3 0 1;").marriages());
        x.take(0);
        x.take(1);
        Edge.due("of all, by or not", 2, x.marriages());
    }

    private static void marry() {
        Edge.of(25, "Whether two could MARRY.");
        TableTower x = Edge.tower("folding 5 10 0 1;oak 5 5 0 9;folding 5 11 0 1;oak 6 5 0 1;");
        Edge.telling("could", x, 1, () -> x.marry(0, 1) ? 1 : 0);
        Edge.telling("couldn't", x, 0, () -> x.marry(0, 3) ? 1 : 0);

        Edge.of(Edge.TERMS, "if each carries the WEIGHT of the other one (as if it were not at the top)");
        Edge.due("half of 11", true, x.marry(1, 2));
        Edge.due("5 doesn't carry 6", false, x.marry(3, 0));
        Edge.due("the other one neither", false, x.marry(0, 3));
        Edge.due("5 and 6: one of them carries", false, Edge.tower("oak 6 9 0 1;oak 5 5 0 1;").marry(0, 1));
        TableTower top = Edge.tower("oak 9 9 0 1;folding 9 17 0 1;");
        Edge.due("at the top it would", false, top.marry(0, 1));
        x.supper();
        x.take(0);
        Edge.due("MEALS count for nothing, nor whether one is by", true, x.marry(0, 1));
        x.years(1);
        Edge.due("worm counts", false, x.marry(0, 1));

        Edge.of(25, "IllegalArgumentException (behind NoSuchElementException): both are one.");
        Edge.wrongAndSame("both are 1", x, () -> x.marry(1, 1) ? 1 : 0);
        Edge.wrong("both are by", () -> x.marry(0, 0) ? 1 : 0);
        Edge.noSuchAndSame("both are 4", x, () -> x.marry(4, 4) ? 1 : 0);
        Edge.noSuch("both are -1", () -> x.marry(-1, -1) ? 1 : 0);
        Edge.noSuch("the other is 4", () -> x.marry(1, 4) ? 1 : 0);
        Edge.noSuch("the one is 4", () -> x.marry(4, 1) ? 1 : 0);
        Edge.noSuch("without TABLES", () -> new TableTower().marry(0, 0) ? 1 : 0);
    }

    private static void nod() {
        Edge.of(26, "NOD; NONE: none.");
        TableTower x = Edge.tower(FOUR);
        // SLACKS 19, 14, 8, 15.
        Edge.telling("as much as it bears", x, NONE, () -> x.nod(3, 8));
        Edge.telling("one more", x, 2, () -> x.nod(3, 9));

        Edge.of(Edge.TERMS, "the LEVEL at which THE TOWER would BREAK, if a TABLE of it ate so much (0 to 99) more; none");
        Edge.due("lower still", 1, x.nod(3, 15));
        Edge.due("at the lowest", 0, x.nod(3, 20));
        Edge.due("above it nothing is felt", NONE, x.nod(0, 19));
        Edge.due("above it nothing is felt", 0, x.nod(0, 20));
        Edge.due("0", NONE, x.nod(0, 0));
        Edge.due("99", 0, x.nod(0, 99));
        TableTower broken = Edge.tower("limit 0;oak 1 9 0 1;oak 1 9 1 1;");
        Edge.due("it breaks anyway", 1, broken.nod(0, 0));

        Edge.of(26, "NoSuchElementException: also it is by.");
        x.take(3);
        Edge.noSuchAndSame("by", x, () -> x.nod(3, 5));
        Edge.noSuchAndSame("TABLE 4", x, () -> x.nod(4, 5));
        Edge.noSuchAndSame("TABLE -1", x, () -> x.nod(-1, 5));

        Edge.of(26, "IllegalArgumentException (behind that): so much.");
        for (int much : new int[] {-1, 100, Integer.MIN_VALUE, Integer.MAX_VALUE}) {
            Edge.wrongAndSame("so much " + much, x, () -> x.nod(0, much));
            Edge.noSuch("by, and so much " + much, () -> x.nod(3, much));
            Edge.noSuch("TABLE 4, and so much " + much, () -> x.nod(4, much));
        }
    }

    private static void fair() {
        Edge.of(27, "A FAIR FOOD; NONE: none.");
        TableTower x = Edge.tower(THREE);
        Edge.telling("15", x, 15, x::fair);
        Edge.due("none", NONE, Edge.tower("oak 1 9 0 5;takes 4;").fair());
        Edge.due("without LEVELS", 0, new TableTower().fair());

        Edge.of(Edge.TERMS, "the least FOOD (0 to 999) by which at a SUPPER now all of THE TOWER would be FULL");
        Edge.due("0", 0, Edge.tower("oak 1 9 0 0;").fair());
        Edge.due("999", 999, Edge.tower("oak 1 9 0 1;takes left=999;").fair());
        Edge.due("1000", NONE, Edge.tower("oak 1 9 0 1;takes left=1000;").fair());
        Edge.due("10 of 99", 990, Edge.tower("oak 1 9 0 99;".repeat(10)).fair());
        Edge.due("the least of two", 7, Edge.tower("oak 1 9 0 3;takes (left=7 or left=500)*3;").fair());
        Edge.due("more than its HUNGER", 8, Edge.tower("oak 1 9 0 3;oak 1 9 0 3;takes 5;").fair());
        Edge.due("FOOD as told counts for nothing", 5, Edge.tower("food 0;oak 1 9 0 5;").fair());
        TableTower y = Edge.tower("oak 1 9 0 7;oak 1 9 0 5;takes (level=0)*(left/2)+(level=1)*left;");
        Edge.due("halves", 14, y.fair());
        y.change(0, 1);
        Edge.due("now", 13, y.fair());
        y.take(0);
        Edge.due("of THE TOWER", 10, y.fair());
        x.supper();
        Edge.due("MEALS as they are count for nothing", 15, x.fair());
    }

    private static void out() {
        Edge.of(28, "OUT, as bits.");
        TableTower x = Edge.tower("limit 0;oak 1 9 1 1;oak 1 9 1 1;oak 1 9 -2 1;oak 1 9 0 1;");
        Edge.telling("all others that lean", x, 6, () -> x.out(0));
        Edge.telling("all that lean", x, 7, () -> x.out(3));
        Edge.due("none", 0, Edge.tower(THREE).out(1));

        Edge.of(Edge.TERMS, "the fewest others of it that must be taken off with it, so that what is left STANDS");
        TableTower fewest = Edge.tower("oak 1 3 0 1;oak 2 9 0 1;oak 2 9 0 1;oak 1 9 0 1;");
        // 5 on 3: with 3 off 4 on 3, so one more of the others must go; with 1 or 2 off it stands.
        Edge.due("with 3", 1, fewest.out(3));
        Edge.due("with 2", 0, fewest.out(2));
        Edge.due("with 1", 0, fewest.out(1));
        Edge.due("with 0", 0, fewest.out(0));
        Edge.due("it stands anyway", 0, Edge.tower(THREE).out(2));

        Edge.of(28, "NoSuchElementException: also it is by.");
        x.take(2);
        Edge.noSuchAndSame("by", x, () -> x.out(2));
        Edge.noSuchAndSame("TABLE 4", x, () -> x.out(4));
        Edge.noSuchAndSame("TABLE -1", x, () -> x.out(-1));

        Edge.of(Edge.TERMS, "of as few the least as bits (all others at the most)");
        TableTower y = Edge.tower("limit 1;oak 1 9 1 1;oak 1 9 1 1;oak 1 9 -1 1;oak 1 9 0 1;");
        // 1 2 1 1: either of the first two.
        Edge.due("the least of two", 1, y.out(3));
        y.change(0, 1);
        Edge.due("by TABLES, not by LEVELS", 1, y.out(3));
        TableTower few = Edge.tower("oak 1 99 0 1;oak 1 99 0 1;oak 2 99 0 1;oak 1 2 0 1;oak 9 99 0 1;");
        few.change(0, 3);
        // Without 4 there are 4 on 3, that bears 2: 2 or 3, or 0 and 1.
        Edge.due("few before least", 4, few.out(4));
        TableTower all = Edge.tower("limit 0;" + "oak 1 9 1 1;".repeat(10));
        Edge.due("all others", 1022, all.out(0));
        Edge.due("all others", 511, all.out(9));
        Edge.due("alone", 0, Edge.tower("limit 0;oak 1 9 1 1;").out(0));
        all.take(4);
        Edge.due("those of THE TOWER", 1022 - 16, all.out(0));
    }

    private static void oneWedge() {
        Edge.of(29, "100 by the TABLE, and WEDGE and 50; NONE: none, it STANDS.");
        TableTower x = Edge.tower("limit 3;oak 1 9 2 1;oak 1 9 3 1;");
        // TILTS 2, 5: the lowest by -5 to -2.
        Edge.telling("TABLE 0 by -5", x, 45, x::oneWedge);
        Edge.due("it STANDS", NONE, Edge.tower(THREE).oneWedge());
        Edge.due("without LEVELS", NONE, new TableTower().oneWedge());
        Edge.due("loaded too much", NONE, Edge.tower("oak 1 0 0 1;oak 1 9 0 1;").oneWedge());
        Edge.due("two would be needed", NONE, Edge.tower("limit 0;oak 1 9 1 1;oak 1 9 1 1;").oneWedge());

        Edge.of(Edge.TERMS, "(-9 to 9, another than it has) it STANDS, if it doesn't now: the first (by LEVELS, then WEDGES)");
        x.change(0, 1);
        Edge.due("by LEVELS: TABLE 1 by -6", 144, x.oneWedge());
        x.wedge(1, 3);
        Edge.due("in place of what it has", 144, x.oneWedge());
        x.wedge(1, -2);
        Edge.due("it STANDS by that", NONE, x.oneWedge());
        Edge.due("-9", 41, Edge.tower("limit 0;oak 1 9 9 1;").oneWedge());
        Edge.due("9", 59, Edge.tower("limit 0;oak 1 9 -9 1;").oneWedge());
        TableTower far = Edge.tower("limit 0;oak 1 9 9 1;");
        far.saw(0, 9);
        far.wedge(0, 9);
        Edge.due("-9 in place of 9", 41, far.oneWedge());
        Edge.due("the higher one", 146, Edge.tower("limit 0;oak 1 9 0 1;oak 1 9 4 1;").oneWedge());
        Edge.due("a castor by 18 less", 41, Edge.tower("limit 1;castor 1 9 9 1;").oneWedge());
        Edge.due("none of ten", NONE, Edge.tower("limit 0;" + "oak 1 9 1 1;".repeat(10)).oneWedge());
        Edge.due("10 would be needed", NONE, Edge.tower("limit 8;oak 1 9 9 1;oak 1 9 9 1;").oneWedge());
        Edge.due("9 will do", 41, Edge.tower("limit 9;oak 1 9 9 1;oak 1 9 9 1;").oneWedge());
    }

    private static void lifted() {
        Edge.of(30, "bits of TABLES that there aren't, so much");
        TableTower x = Edge.tower(THREE);
        for (int set : new int[] {8, 15, -1, 1 << 30, Integer.MIN_VALUE}) {
            Edge.wrongAndSame("bits " + set, x, () -> x.lifted(set, 0));
        }
        for (int sea : new int[] {-1, 11, Integer.MIN_VALUE, Integer.MAX_VALUE}) {
            Edge.wrongAndSame("so much " + sea, x, () -> x.lifted(0, sea));
        }
        Edge.wrong("both", () -> x.lifted(8, 11));
        TableTower none = new TableTower();
        Edge.wrong("without TABLES", () -> none.lifted(1, 0));
        Edge.due("without TABLES", 1, none.lifted(0, 10));

        Edge.of(Edge.TERMS, "with some of all TABLES (what is by is none of them) on LEVEL so much (0 to 10) or higher");
        Edge.telling("some may be none", x, 6, () -> x.lifted(0, 10));
        Edge.due("0", 6, x.lifted(7, 0));
        Edge.due("10", 0, x.lifted(1, 10));
        Edge.due("one on 1 or higher", 4, x.lifted(1, 1));
        Edge.due("two on 1 or higher", 2, x.lifted(5, 1));
        Edge.due("all on 1 or higher", 0, x.lifted(7, 1));
        Edge.due("one on 2", 2, x.lifted(4, 2));
        Edge.due("one on 3", 0, x.lifted(4, 3));
        x.take(2);
        Edge.due("what is by is none of them", 2, x.lifted(4, 10));
        Edge.due("of two, one by", 1, x.lifted(5, 1));
        TableTower y = Edge.tower("oak 5 0 0 1;oak 1 5 0 1;oak 9 6 0 1;");
        Edge.due("those that can stand", 1, y.lifted(1, 2));
        Edge.due("those that can stand", 0, y.lifted(4, 1));
        TableTower ten = Edge.tower("oak 1 9 0 1;".repeat(10));
        Edge.due("the tenth of ten on 9", 362880, ten.lifted(512, 9));
        Edge.due("the tenth of ten on 5", 1814400, ten.lifted(512, 5));
    }

    private static void swap() {
        Edge.of(31, "10 by the lower LEVEL and the higher one; NONE: none.");
        // 9 - 11; 0 and 1: 20 - 9, 9 - 1; 0 and 2: 30 - 18, 20 - 8, 9; 1 and 2: 9 - 11.
        TableTower x = Edge.tower("oak 8 9 0 1;oak 10 20 0 1;oak 1 30 0 1;");
        Edge.telling("0 and 2", x, 2, x::swap);
        x.change(0, 1);
        // 1 0 2 has 8; 1 2 0 has 9; 2 0 1 doesn't stand.
        Edge.telling("1 and 2", x, 12, x::swap);
        Edge.due("without LEVELS", NONE, new TableTower().swap());
        Edge.due("one LEVEL", NONE, Edge.tower("oak 8 9 0 1;").swap());
        TableTower ten = Edge.tower("oak 1 9 0 1;".repeat(8) + "oak 1 0 0 1;oak 1 9 0 1;");
        Edge.due("8 and 9 of ten", 89, ten.swap());

        Edge.of(Edge.TERMS, "that by which MORE is most, if it is more than now (none now counts below 0)");
        Edge.due("as much is not more", NONE, Edge.tower("oak 1 9 0 1;oak 1 9 0 1;oak 1 9 0 1;").swap());
        Edge.due("one more is", 1, Edge.tower("oak 1 9 0 1;oak 2 9 0 1;").swap());
        Edge.due("one less isn't", NONE, Edge.tower("oak 2 9 0 1;oak 1 9 0 1;").swap());
        Edge.due("none now, 0 then", 1, Edge.tower("oak 1 0 0 1;oak 1 1 0 1;").swap());
        Edge.due("0 now, 0 then", NONE, Edge.tower("oak 1 1 0 1;oak 1 1 0 1;").swap());
        Edge.due("by none it stands", NONE, Edge.tower("limit 0;oak 1 9 1 1;oak 1 9 1 1;").swap());

        Edge.of(Edge.TERMS, "of like ones the first (the lower one, then the higher)");
        // LEANS 2, 2, -2 and LIMIT 2: 0 and 2, 1 and 2, both by 7.
        Edge.due("the lower one", 2, Edge.tower("limit 2;oak 1 9 2 1;oak 1 9 2 1;oak 1 9 -2 1;").swap());
        // LEANS 2, -2, -2 ..: 0 is even with either of two that come below it.
        TableTower y = Edge.tower("limit 2;oak 1 9 -2 1;oak 1 9 -2 1;oak 1 9 2 1;oak 1 9 2 1;");
        // -2 -4: 0 and 2, 0 and 3, 1 and 2, 1 and 3: all by 6.
        Edge.due("then the higher one", 2, y.swap());
        y.change(0, 1);
        Edge.due("by LEVELS, not by TABLES", 2, y.swap());
    }

    private static void slack() {
        Edge.of(32, "SLACK (below 0: it is loaded too much).");
        TableTower x = Edge.tower(FOUR);
        int[] want = {19, 14, 8, 15};
        for (int level = 0; level < 4; level++) {
            int at = level;
            Edge.telling("LEVEL " + level, x, want[level], () -> x.slack(at));
        }
        x.supper();
        Edge.due("30 - 31", -1, x.slack(0));
        Edge.due("20 - 21", -1, x.slack(1));
        x.years(30);
        Edge.due("what worm left", -31, x.slack(0));
        Edge.due("0 less its LOAD", -21, x.slack(1));
        Edge.due("just", 0, Edge.tower("oak 1 7 0 1;oak 7 0 0 1;").slack(0));
        TableTower leaning = Edge.tower("limit 0;oak 1 7 9 1;");
        Edge.due("TILT counts for nothing", 7, leaning.slack(0));
        Edge.of(Edge.TERMS, "SLACK of a LEVEL: what it carries less its LOAD");
        TableTower fed = Edge.tower("folding 1 21 0 3;folding 2 21 0 4;");
        fed.supper();
        Edge.due("10 less 2, 4 and 3", 1, fed.slack(0));
        Edge.due("21 less 4", 17, fed.slack(1));
        fed.years(2);
        Edge.due("10 less worm of 4", -3, fed.slack(0));
        Edge.noSuchAndSame("LEVEL 1", leaning, () -> leaning.slack(1));
        Edge.noSuch("LEVEL -1", () -> leaning.slack(-1));
    }

    private static void broken() {
        Edge.of(33, "BROKEN; NONE: none.");
        TableTower x = Edge.tower("oak 1 10 0 1;pine 1 20 0 1;oak 1 99 0 1;");
        // 10 - y bears 2 till 8, 20 - 3 y bears 1 till 6.
        Edge.telling("now", x, NONE, () -> x.broken(0));
        Edge.due("in 6", NONE, x.broken(6));
        Edge.telling("in 7", x, 1, () -> x.broken(7));
        Edge.due("in 8", 1, x.broken(8));
        Edge.due("in 9", 0, x.broken(9));
        Edge.due("in 99", 0, x.broken(99));
        Edge.due("without LEVELS", NONE, new TableTower().broken(99));
        x.years(7);
        Edge.due("from now on", 1, x.broken(0));
        Edge.due("from now on", 0, x.broken(2));

        Edge.of(Edge.TERMS, "BROKEN in so many YEARS (0 to 99): the LEVEL at which it would BREAK then, if only YEARS go by; none");
        TableTower far = Edge.tower("oak 1 99 0 1;oak 1 0 0 1;");
        Edge.due("in 98", NONE, far.broken(98));
        Edge.due("in 99", 0, far.broken(99));
        far.years(30);
        Edge.due("in 68 more", NONE, far.broken(68));
        Edge.due("in 69 more", 0, far.broken(69));
        Edge.due("leans, whatever goes by", 1, Edge.tower("limit 0;oak 1 9 0 1;oak 1 9 1 1;").broken(0));

        Edge.of(33, "IllegalArgumentException: not 0 to 99.");
        for (int years : new int[] {-1, 100, Integer.MIN_VALUE, Integer.MAX_VALUE}) {
            Edge.wrongAndSame(years + " YEARS", x, () -> x.broken(years));
        }
        Edge.wrong("without LEVELS", () -> new TableTower().broken(100));
    }

    private static void crooked() {
        Edge.of(34, "NONE: there are no LEVELS.");
        Edge.due("a new object", NONE, new TableTower().crooked());
        TableTower gone = Edge.tower("oak 1 9 3 1;");
        Edge.due("one", 0, gone.crooked());
        gone.take(0);
        Edge.due("all are by", NONE, gone.crooked());

        Edge.of(Edge.TERMS, "the LEVEL of most TILT, without sign (of like ones the lowest); none");
        TableTower x = Edge.tower("oak 1 9 3 1;oak 1 9 -7 1;oak 1 9 8 1;oak 1 9 -8 1;");
        // 3, -4, 4, -4.
        Edge.telling("the lowest of three", x, 1, x::crooked);
        x.wedge(3, -9);
        Edge.due("the highest, below 0", 3, x.crooked());
        Edge.due("all even", 0, Edge.tower(THREE).crooked());
        Edge.due("the lowest", 0, Edge.tower("oak 1 9 -9 1;oak 1 9 9 1;").crooked());
    }

    private static void top() {
        Edge.of(35, "AT THE TOP; NONE: there are no LEVELS.");
        Edge.due("a new object", NONE, new TableTower().top(5));
        TableTower gone = Edge.tower("oak 1 9 3 4;");
        Edge.due("one", 4, gone.top(5));
        gone.take(0);
        Edge.due("all are by", NONE, gone.top(5));

        Edge.of(35, "IllegalArgumentException: not 0 to 999.");
        TableTower x = Edge.tower(FOUR);
        for (int food : new int[] {-1, 1000, Integer.MIN_VALUE, Integer.MAX_VALUE}) {
            Edge.wrongAndSame("FOOD " + food, x, () -> x.top(food));
        }
        Edge.wrong("without LEVELS", () -> new TableTower().top(1000));

        Edge.of(Edge.TERMS, "so much MEAL by a SUPPER of so much FOOD (0 to 999)");
        // 5, 7, 4 go first.
        Edge.telling("20", x, 4, () -> x.top(20));
        Edge.due("16", 0, x.top(16));
        Edge.due("17", 1, x.top(17));
        Edge.due("0", 0, x.top(0));
        Edge.due("999", 6, x.top(999));
        x.change(0, 3);
        // 9, 7, 4, then 5 - 3.
        Edge.due("the highest TABLE now", 2, x.top(999));
        Edge.due("999 at the top", 999, Edge.tower("oak 1 9 0 1;takes left;").top(999));
    }

    private static void relief() {
        Edge.of(36, "RELIEF; NONE: none.");
        Edge.due("without LEVELS", NONE, new TableTower().relief());
        TableTower x = Edge.tower("oak 9 20 0 1;oak 2 20 0 1;oak 6 20 0 1;oak 2 20 0 1;");
        // Without 0, 1, 3: 20 - 8; without 2: 20 - 4.
        Edge.telling("most MORE", x, 2, x::relief);

        Edge.of(Edge.TERMS, "by whose being taken off it STANDS with most MORE (of like ones the least)");
        x.take(2);
        // 20 - 2 without 0, 1 or 3.
        Edge.due("the least of three", 0, x.relief());
        x.change(0, 2);
        // 3 1 0: without 0 18, without 1 and 3 11.
        Edge.due("most MORE", 0, x.relief());
        TableTower two = Edge.tower("oak 9 20 0 1;oak 9 20 0 1;oak 9 10 0 1;");
        two.change(0, 1);
        // 1 0 2: without 0 or 1 10, without 2 11.
        Edge.due("the highest", 2, two.relief());
        TableTower like = Edge.tower("oak 9 20 0 1;oak 9 20 0 1;oak 9 20 0 1;");
        like.change(0, 2);
        Edge.due("the least TABLE, not the lowest LEVEL", 0, like.relief());
        Edge.due("nothing is left", 0, Edge.tower("limit 0;oak 1 9 9 1;").relief());
        Edge.due("the tenth of ten", 9, Edge.tower("limit 0;" + "oak 1 99 0 1;".repeat(9) + "oak 1 99 1 1;").relief());
        Edge.due("MORE of 0 is MORE", 1, Edge.tower("limit 0;oak 1 0 0 1;oak 1 0 9 1;").relief());

        Edge.of(Edge.TERMS, "none, if by none it STANDS");
        Edge.due("by none", NONE, Edge.tower("limit 0;oak 1 9 1 1;oak 1 9 1 1;oak 1 9 1 1;").relief());
        TableTower by = Edge.tower("limit 0;oak 1 9 1 1;oak 1 9 1 1;oak 1 9 1 1;oak 1 9 0 1;");
        by.take(3);
        Edge.due("what is by relieves nothing", NONE, by.relief());
    }

    private static void hungriest() {
        Edge.of(37, "THE HUNGRIEST; NONE: none.");
        Edge.due("without LEVELS", NONE, new TableTower().hungriest());
        TableTower x = Edge.tower("food 9;oak 1 9 0 7;oak 1 9 0 9;oak 1 9 0 8;");
        Edge.telling("no MEALS", x, 1, x::hungriest);

        Edge.of(Edge.TERMS, "that whose HUNGER is most above its MEAL (of like ones the least)");
        x.supper();
        // 7 - 7, 9 - 2, 8 - 0.
        Edge.due("most above its MEAL", 2, x.hungriest());
        x.take(2);
        Edge.due("of THE TOWER", 1, x.hungriest());
        TableTower like = Edge.tower("oak 1 9 0 4;oak 1 9 0 4;");
        like.change(0, 1);
        Edge.due("the least TABLE, not the lowest LEVEL", 0, like.hungriest());
        Edge.due("the tenth of ten", 9, Edge.tower("oak 1 9 0 4;".repeat(9) + "oak 1 9 0 5;").hungriest());

        Edge.of(Edge.TERMS, "none, if all are FULL");
        x.take(1);
        Edge.due("all are FULL", NONE, x.hungriest());
        Edge.due("no HUNGER", NONE, Edge.tower("oak 1 9 0 0;").hungriest());
        TableTower more = Edge.tower("oak 1 9 0 4;oak 1 9 0 1;takes 5;");
        more.supper();
        Edge.due("more than FULL", NONE, more.hungriest());
        Edge.due("one that isn't", 0, Edge.tower("oak 1 9 0 1;").hungriest());
    }
}
