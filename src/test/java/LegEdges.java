/** Edges of WHICH LEG, LOOK NEXT, A GAME, and YEARS by a seed. */
final class LegEdges {
    private static final int NONE = TableTower.NONE;
    private static final String FOUR = "limit 3;food 20;oak 10 30 1 5;pine 5 20 -2 8;folding 4 20 0 6;castor 2 15 1 9;"
        + "takes hunger-level;";

    private LegEdges() {
    }

    static void all() {
        which();
        whichTerms();
        look();
        game();
        gameTerms();
        decades();
        yearsBySeed();
        whatIsDrawn();
        draws();
    }

    private static void which() {
        Edge.of(39, "how many (what 0), the first (1; NONE: none), whether without (2)");
        TableTower x = Edge.tower(FOUR);
        // TILTS 1, -1, -1, 1; LEVEL 3 by 4 more: 2 leans by 4, 3 (a castor) by 3; 0 and 1 are seen to be as they are.
        x.see(1, -1);
        x.see(3, 5);
        Edge.telling("how many", x, 2, () -> x.which(0));
        Edge.telling("the first", x, 254, () -> x.which(1));
        Edge.telling("whether without", x, 0, () -> x.which(2));
        x.see(3, 6);
        Edge.due("both can't be", 0, x.which(0));
        Edge.due("none", NONE, x.which(1));
        TableTower none = new TableTower();
        Edge.due("without LEVELS", 0, none.which(0));
        Edge.due("without LEVELS", NONE, none.which(1));
        Edge.due("without LEVELS", 1, none.which(2));

        Edge.of(39, "another what");
        for (int what : new int[] {-1, 3, Integer.MIN_VALUE, Integer.MAX_VALUE}) {
            Edge.noSuchAndSame("what " + what, x, () -> x.which(what));
            Edge.noSuch("without LEVELS, what " + what, () -> none.which(what));
        }
    }

    private static void whichTerms() {
        Edge.of(Edge.TERMS, "TABLES of THE TOWER and LEANS (-9 to 9, another than it has) by one of which all SEEN would be so");
        TableTower x = Edge.tower("oak 1 9 0 1;oak 1 9 9 1;oak 1 9 -9 1;");
        Edge.due("nothing SEEN: 18 of each", 54, x.which(0));
        x.take(2);
        Edge.due("of THE TOWER", 36, x.which(0));
        // TILTS 0, 9.
        x.see(1, 18);
        Edge.due("0 by 9; 1 would need 18", 1, x.which(0));
        Edge.due("LEAN 9", 59, x.which(1));
        x.forget();
        x.see(1, -9);
        Edge.due("1 by -9; 0 would need -18", 141, x.which(1));
        Edge.due("LEAN -9", 1, x.which(0));
        x.forget();
        x.see(1, 9);
        Edge.due("as it is: by none other", 0, x.which(0));
        x.forget();
        x.see(0, 0);
        Edge.due("the lower one must be as it is", 18, x.which(0));
        TableTower castor = Edge.tower("castor 1 9 -9 1;");
        castor.see(0, 18);
        Edge.due("a castor's LEAN counts twice", 59, castor.which(1));
        castor.forget();
        castor.see(0, 17);
        Edge.due("not by halves", 0, castor.which(0));
        TableTower wedged = Edge.tower("oak 1 9 3 1;");
        wedged.wedge(0, -5);
        wedged.see(0, 4);
        Edge.due("WEDGES stay", 59, wedged.which(1));

        Edge.of(Edge.TERMS, "the first (by LEVELS, then LEANS: 100 by the TABLE, and LEAN and 50)");
        TableTower y = Edge.tower("oak 1 9 -9 1;oak 1 9 9 1;oak 1 9 0 1;");
        Edge.due("its own LEAN is none: -8", 42, y.which(1));
        y.change(0, 2);
        Edge.due("by LEVELS: TABLE 2 by -9", 241, y.which(1));
        y.see(0, 0);
        Edge.due("the next LEVEL: TABLE 1", 141, y.which(1));

        Edge.of(Edge.TERMS, "whether it is so without (1)");
        Edge.due("so", 1, y.which(2));
        y.see(1, 8);
        Edge.due("not so", 0, y.which(2));
        y.saw(1, 8);
        Edge.due("so since", 1, y.which(2));
        y.wedge(1, 1);
        Edge.due("by a WEDGE not", 0, y.which(2));
    }

    private static void look() {
        Edge.of(40, "LOOK NEXT; NONE: none.");
        TableTower x = Edge.tower(FOUR);
        x.see(3, 4);
        // 0 by 4, 1 by 1, 2 by 3: at LEVEL 0 TILTS 4, 1, 1, at LEVEL 1 2, 2, -1.
        Edge.telling("LEVEL 0", x, 0, x::look);
        Edge.due("without LEVELS", NONE, new TableTower().look());

        Edge.of(Edge.TERMS, "by whose TILT of these (one that isn't so is none) most are told apart");
        x.see(0, 1);
        // 1 by 1, 2 by 3: LEVEL 1 alone tells them apart.
        Edge.due("0 is none any more", 1, x.look());

        Edge.of(Edge.TERMS, "how many unlike TILTS there are among them (of like ones the lowest LEVEL)");
        // At LEVEL 0: -9 to 9; at LEVEL 1 the same, but for the TILT as it is.
        Edge.due("19 and 18", 0, Edge.tower("oak 1 9 0 1;oak 1 9 0 1;").look());
        // At LEVEL 0: 19; at LEVEL 1: 0 to 18 and -9 to 8, but for 9.
        Edge.due("19 and 27", 1, Edge.tower("oak 1 9 0 1;oak 1 9 9 1;").look());
        // At LEVEL 1: by -18 to -1, and by -36 to -2 in twos: more than the 19 at LEVEL 0.
        Edge.due("as far as can be", 1, Edge.tower("oak 1 9 9 1;castor 1 9 9 1;").look());
        TableTower like = Edge.tower("oak 1 9 0 1;oak 1 9 0 1;oak 1 9 0 1;");
        like.see(2, 5);
        // 0, 1 or 2 by 5: at LEVEL 0 5, 0, 0, at LEVEL 1 5, 5, 0.
        Edge.due("two and two", 0, like.look());
        like.see(0, 0);
        Edge.due("one, two, one", 1, like.look());
        like.see(1, 0);
        Edge.due("one is left: one, one, one", 0, like.look());
        TableTower castor = Edge.tower("castor 1 9 9 1;castor 1 9 -9 1;");
        castor.see(1, -36);
        Edge.due("by 36 less", 0, castor.look());
        TableTower more = Edge.tower("castor 1 9 -9 1;castor 1 9 9 1;");
        more.see(1, 36);
        Edge.due("by 36 more", 0, more.look());
        for (int far : new int[] {9, -9, 1, -1}) {
            TableTower three = Edge.tower("oak 1 9 0 1;oak 1 9 0 1;oak 1 9 0 1;");
            three.see(0, 0);
            three.see(2, far);
            Edge.due("1 or 2 by " + far, 1, three.look());
        }
        TableTower four = Edge.tower("oak 1 9 0 1;".repeat(4));
        four.see(3, 5);
        // 5 0 0 0, 5 5 0 0, 5 5 5 0, 5 5 5 5.
        Edge.due("two, two, two, one", 0, four.look());
        // 1 0 2 3, and 1 leans by 5: 2 or 3 by any LEAN; LEVEL 2 has 19 TILTS, LEVEL 3 has 18.
        four.forget();
        four.see(1, 5);
        four.change(0, 1);
        four.saw(1, 5);
        Edge.due("as THE TOWER is now", 2, four.look());

        Edge.of(Edge.TERMS, "none without any");
        like.see(2, 6);
        Edge.due("all SEEN can't be", NONE, like.look());
        TableTower asItIs = Edge.tower("oak 1 9 0 1;");
        asItIs.see(0, 0);
        Edge.due("as it is, but by none other", NONE, asItIs.look());
        asItIs.forget();
        Edge.due("nothing SEEN", 0, asItIs.look());
    }

    private static void game() {
        Edge.of(42, "how many couples rest (what 0; 0 with fewer than two LEVELS), the first (1; NONE: none)");
        TableTower two = Edge.tower("oak 1 99 0 1;oak 1 99 0 1;");
        Edge.telling("both eat all", two, 1, () -> two.game(0));
        Edge.telling("both eat all", two, 99, () -> two.game(1));
        two.take(1);
        Edge.due("one LEVEL", 0, two.game(0));
        Edge.due("one LEVEL", NONE, two.game(1));
        two.take(0);
        Edge.due("all are by", 0, two.game(0));
        Edge.due("all are by", NONE, two.game(1));
        Edge.due("without TABLES", 0, new TableTower().game(0));
        Edge.due("without TABLES", NONE, new TableTower().game(1));

        Edge.of(42, "another what");
        for (int what : new int[] {-1, 2, Integer.MIN_VALUE, Integer.MAX_VALUE}) {
            Edge.noSuchAndSame("what " + what, two, () -> two.game(what));
        }
    }

    /** Two TABLES, of which the lowest bears so much more: how many couples rest, and the first. */
    private static void shared(int slack, int many, int first) {
        TableTower x = Edge.tower("oak 1 " + (slack + 1) + " 0 1;oak 1 99 0 1;");
        Edge.due(slack + " for both", many, x.game(0));
        Edge.due(slack + " for both", first, x.game(1));
    }

    private static void gameTerms() {
        Edge.of(Edge.TERMS, "A GAME of the lowest and the highest TABLE of THE TOWER (two at least)");
        // The middle one bears 2 more, of the highest.
        Edge.due("those between don't eat", 92, Edge.tower("oak 1 99 0 1;oak 1 3 0 1;oak 1 99 0 1;").game(1));
        TableTower x = Edge.tower("oak 1 99 0 1;oak 1 4 0 1;oak 1 99 0 1;");
        Edge.due("of LEVELS", 93, x.game(1));
        x.change(0, 1);
        // 1 0 2: the lowest bears 4 - 2 for both.
        Edge.due("of LEVELS", 2, x.game(1));

        Edge.of(Edge.TERMS, "each eats so much (0 to 9) besides; each gains that, but loses 20, if THE TOWER doesn't stand with both");
        Edge.due("the highest bears 4", 94, Edge.tower("oak 1 99 0 1;oak 1 4 0 1;").game(1));
        Edge.due("it doesn't stand anyway", 99, Edge.tower("oak 1 0 0 1;oak 1 4 0 1;").game(1));
        Edge.due("it doesn't stand anyway", 1, Edge.tower("oak 1 0 0 1;oak 1 4 0 1;").game(0));
        TableTower fed = Edge.tower("oak 1 99 0 7;oak 1 9 0 7;");
        fed.supper();
        Edge.due("besides what it ate", 92, fed.game(1));

        Edge.of(Edge.TERMS, "A couple RESTS, if neither gains more by another number: how many; the first (10 by the lowest's"
            + " and the highest's)");
        // Nothing can be eaten: 0 0 rests, and 9 9, as neither alone can help.
        shared(0, 2, 0);
        shared(4, 6, 4);
        shared(8, 10, 8);
        // 9 9 doesn't rest any more: one of them could eat nothing.
        shared(9, 10, 9);
        shared(10, 9, 19);
        shared(17, 2, 89);
        shared(18, 1, 99);
    }

    /** The seed behind it, as the document says it, with longs. */
    private static long step(long seed) {
        return (seed * 1103515245L + 12345L) % 4294967296L;
    }

    private static int drawn(long seed, int n) {
        return (int) (seed / 65536L % 32768L % n);
    }

    /** The least seed from 0 on whose DRAWS are these: a TABLE of n, then of 5 what, for each YEAR. */
    private static int seedOf(int n, int... draws) {
        for (int seed = 0; seed < 10000000; seed++) {
            long at = seed;
            boolean so = true;
            for (int i = 0; so && i < draws.length; i++) {
                at = step(at);
                so = drawn(at, i % 2 == 0 ? n : 5) == draws[i];
            }
            if (so) {
                return seed;
            }
        }
        throw new AssertionError("no such seed");
    }

    private static void decades() {
        Edge.of(43, "how many it stood (what 0), the first not (1; NONE), LOAD (2)");
        TableTower x = Edge.tower("pine 1 7 0 0;oak 5 99 0 0;");
        // 7 - 3 y doesn't bear 5 from the first YEAR on, whatever is drawn.
        Edge.telling("it stood", x, 0, () -> x.decades(3, 9, 0));
        Edge.telling("the first not", x, 1, () -> x.decades(3, 9, 1));
        Edge.telling("LOAD", x, 5, () -> x.decades(3, 9, 2));
        Edge.due("never not", NONE, new TableTower().decades(3, 9, 1));

        Edge.of(43, "another what");
        for (int what : new int[] {-1, 3, Integer.MIN_VALUE, Integer.MAX_VALUE}) {
            Edge.noSuchAndSame("what " + what, x, () -> x.decades(3, 9, what));
        }

        Edge.of(43, "IllegalArgumentException (behind that): n.");
        for (int n : new int[] {-1, 41, Integer.MIN_VALUE, Integer.MAX_VALUE}) {
            Edge.wrongAndSame("n " + n, x, () -> x.decades(3, n, 0));
            Edge.wrong("LOAD, n " + n, () -> x.decades(3, n, 2));
            Edge.noSuch("another what, n " + n, () -> x.decades(3, n, 3));
            Edge.wrong("without TABLES", () -> new TableTower().decades(3, n, 1));
        }
    }

    private static void yearsBySeed() {
        Edge.of(Edge.TERMS, "YEARS by a seed, from now on: n YEARS (0 to 40)");
        TableTower x = Edge.tower("pine 1 7 0 5;oak 1 99 0 1;");
        Edge.due("0", 0, x.decades(3, 0, 0));
        Edge.due("0", NONE, x.decades(3, 0, 1));
        Edge.due("0", 1, x.decades(3, 0, 2));
        TableTower broken = Edge.tower("limit 0;oak 1 9 9 1;");
        Edge.due("0, and it doesn't stand", NONE, broken.decades(3, 0, 1));
        Edge.due("40", 40, Edge.tower("oak 1 99 0 0;oak 1 0 0 0;limit 40;").decades(3, 40, 0));
        TableTower old = Edge.tower("pine 1 10 0 0;oak 1 99 0 0;limit 40;");
        Edge.due("10 - 3 y bears 1 for 3 YEARS", 3, old.decades(3, 40, 0));
        old.years(2);
        Edge.due("from now on", 1, old.decades(3, 40, 0));
        TableTower fed = Edge.tower("oak 1 99 0 7;limit 40;");
        fed.supper();
        Edge.due("MEALS from now on", 7, fed.decades(seedOf(1, 0, 4), 1, 2));

        Edge.of(Edge.TERMS, "how many YEARS it stood at the end of; the first at whose end it didn't (1 on; none)");
        TableTower even = Edge.tower("limit 0;oak 1 99 0 1;");
        int upAndDown = seedOf(1, 0, 0, 0, 1, 0, 3);
        Edge.due("not, then yes, yes", 2, even.decades(upAndDown, 3, 0));
        Edge.due("the first is 1", 1, even.decades(upAndDown, 3, 1));
        int late = seedOf(1, 0, 4, 0, 1, 0, 1);
        Edge.due("yes, not, not", 1, even.decades(late, 3, 0));
        Edge.due("the first is 2", 2, even.decades(late, 3, 1));
        Edge.due("not yet", NONE, even.decades(late, 1, 1));
        TableTower bad = Edge.tower("limit 0;oak 1 99 1 1;");
        Edge.due("at the end of the YEAR", 1, bad.decades(seedOf(1, 0, 1), 1, 0));

        Edge.of(Edge.TERMS, "how much LEVEL 0 is loaded at the end (0 without)");
        TableTower load = Edge.tower("oak 1 99 0 3;oak 5 99 0 4;");
        Edge.due("5 and MEALS", 5 + 3 + 4, load.decades(seedOf(2, 0, 2, 1, 2), 2, 2));
        load.take(0);
        load.take(1);
        Edge.due("all are by", 0, load.decades(seedOf(2, 0, 2), 1, 2));
        Edge.due("all are by, it stood", 9, load.decades(5, 9, 0));
        Edge.due("without TABLES", 0, new TableTower().decades(5, 9, 2));

        Edge.of(Edge.TERMS, "(Without TABLES nothing is drawn.)");
        for (int seed : new int[] {0, 1, -1, Integer.MIN_VALUE, Integer.MAX_VALUE}) {
            Edge.due("it stood", 40, new TableTower().decades(seed, 40, 0));
            Edge.due("never not", NONE, new TableTower().decades(seed, 40, 1));
        }
    }

    private static void whatIsDrawn() {
        Edge.of(Edge.TERMS, "0 its LEAN is 1 more, 1 it is 1 less (kept to -9 to 9)");
        Edge.due("8 and 1", 0, Edge.tower("limit 8;oak 1 99 8 1;").decades(seedOf(1, 0, 0), 1, 0));
        Edge.due("9 and 1", 1, Edge.tower("limit 9;oak 1 99 9 1;").decades(seedOf(1, 0, 0), 1, 0));
        Edge.due("9 and 1, less 1", 1, Edge.tower("limit 8;oak 1 99 9 1;").decades(seedOf(1, 0, 0, 0, 1), 2, 0));
        Edge.due("-8 less 1", 0, Edge.tower("limit 8;oak 1 99 -8 1;").decades(seedOf(1, 0, 1), 1, 0));
        Edge.due("-9 less 1", 1, Edge.tower("limit 9;oak 1 99 -9 1;").decades(seedOf(1, 0, 1), 1, 0));
        Edge.due("-9 less 1, and 1", 1, Edge.tower("limit 8;oak 1 99 -9 1;").decades(seedOf(1, 0, 1, 0, 0), 2, 0));
        TableTower two = Edge.tower("limit 0;oak 1 99 0 1;oak 1 99 0 1;");
        Edge.due("the other TABLE's", 1, two.decades(seedOf(2, 1, 0), 1, 1));
        two.take(1);
        Edge.due("of one that is by, nothing is felt", NONE, two.decades(seedOf(2, 1, 0), 1, 1));
        two.wedge(0, -1);
        Edge.due("WEDGES stay", 1, two.decades(seedOf(2, 0, 0), 1, 0));

        Edge.of(Edge.TERMS, "2 its MEAL is more by its HUNGER (if it is in THE TOWER), else nothing");
        TableTower x = Edge.tower("limit 0;oak 1 99 0 3;oak 1 99 0 4;");
        Edge.due("its own", 1 + 3, x.decades(seedOf(2, 0, 2), 1, 2));
        Edge.due("another's", 1 + 4, x.decades(seedOf(2, 1, 2), 1, 2));
        Edge.due("twice", 1 + 6, x.decades(seedOf(2, 0, 2, 0, 2), 2, 2));
        for (int what : new int[] {3, 4}) {
            Edge.due("nothing", 1, x.decades(seedOf(2, 0, what), 1, 2));
            Edge.due("nothing", 1, x.decades(seedOf(2, 0, what), 1, 0));
        }
        x.take(1);
        Edge.due("by", 0, x.decades(seedOf(2, 1, 2), 1, 2));
        Edge.due("THE TOWER's MEALS are as they were", 0, x.table(0, 5));

        Edge.of(Edge.TERMS, "a YEAR goes by, then a DRAW of TABLES, a DRAW of 5");
        // Of 3 TABLES the highest is drawn, that bears 3: 3 less the worm of a YEAR doesn't bear its HUNGER of 3.
        TableTower y = Edge.tower("oak 1 99 0 1;oak 1 99 0 1;oak 1 3 0 3;");
        Edge.due("worm and MEAL", 1, y.decades(seedOf(3, 2, 2), 1, 1));
        Edge.due("another TABLE", NONE, y.decades(seedOf(3, 1, 2), 1, 1));
        y.take(0);
        Edge.due("of TABLES, not of LEVELS", 1, y.decades(seedOf(3, 2, 2), 1, 1));
    }

    private static void draws() {
        Edge.of(Edge.TERMS, "A seed becomes itself times 1103515245 and 12345 (an int that wraps)");
        // 0 becomes 12345, then -740551042: DRAWS 0 and (3554416254 / 65536) MOD 32768 = 21468, MOD 5 = 3.
        TableTower x = Edge.tower("limit 0;oak 1 99 0 3;");
        Edge.due("by 0 nothing", 1, x.decades(0, 1, 0));
        Edge.due("by 0 nothing", 0, x.decades(0, 1, 2));
        for (int seed : new int[] {0, 1, -1, 5, 123456789, -123456789, Integer.MIN_VALUE, Integer.MAX_VALUE}) {
            asDrawn(seed);
        }

        Edge.of(Edge.TERMS, "a DRAW of n is its bits 16 to 30 MOD n then");
        for (int seed = 1000; seed < 1040; seed++) {
            asDrawn(seed * 987654321);
        }
    }

    /** Three TABLES, of which the middle one alone is in THE TOWER: what 40 YEARS make of it. */
    private static void asDrawn(int seed) {
        long at = seed & 0xffffffffL;
        int meal = 0;
        int lean = 0;
        int stood = 0;
        for (int year = 1; year <= 40; year++) {
            at = step(at);
            int table = drawn(at, 3);
            at = step(at);
            int what = drawn(at, 5);
            if (table == 1) {
                lean += what == 0 ? 1 : what == 1 ? -1 : 0;
                meal += what == 2 ? 7 : 0;
            }
            stood += lean == 0 ? 1 : 0;
        }
        TableTower x = Edge.tower("limit 0;oak 9 999 9 9;oak 9 999 0 7;oak 9 999 9 9;");
        x.take(0);
        x.take(2);
        Edge.due("LOAD by seed " + seed, meal, x.decades(seed, 40, 2));
        Edge.due("stood by seed " + seed, stood, x.decades(seed, 40, 0));
    }
}
