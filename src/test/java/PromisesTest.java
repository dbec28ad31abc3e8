import java.util.NoSuchElementException;

/** Promises 1 to 45, each with answers worked out by hand from the document. */
public final class PromisesTest {
    private static final Class<?> NSE = NoSuchElementException.class;
    private static final Class<?> IAE = IllegalArgumentException.class;
    private static final int NONE = TableTower.NONE;

    private static final String FOUR = "limit 3;food 20;oak 10 30 1 5;pine 5 20 -2 8;folding 4 20 0 6;castor 2 15 1 9;"
        + "takes hunger-level;";
    private static final String THREE = "oak 1 50 0 5;oak 2 50 0 5;oak 3 50 0 5;";

    public static void main(String[] args) {
        newObject();
        feed();
        town();
        fault();
        count();
        table();
        level();
        by();
        put();
        take();
        change();
        wedge();
        saw();
        supper();
        years();
        undo();
        actsKept();
        more();
        without();
        mostAndRow();
        orders();
        wedges();
        when();
        marriages();
        marry();
        nod();
        fair();
        out();
        oneWedge();
        lifted();
        swap();
        slack();
        broken();
        crooked();
        top();
        relief();
        hungriest();
        see();
        which();
        look();
        forget();
        game();
        decades();
        imageAndRestore();
        tenTables();
        Check.end();
    }

    private static void due(String what, long want, long got) {
        Check.due(what, want, got);
    }

    private static void due(String what, boolean want, boolean got) {
        Check.due(what, want, got);
    }

    private static void newObject() {
        TableTower x = new TableTower();
        due("1 TABLES", 0, x.count(0));
        due("1 LIMIT", 9, x.count(2));
        due("1 FOOD", 100, x.count(3));
        due("1 stands", 1, x.count(4));
        due("1 bytes", 0, x.count(11));
        Check.thrown("1 table(0, 0)", NSE, () -> x.table(0, 0));
        Check.thrown("1 level(0, 0)", NSE, () -> x.level(0, 0));
        due("1 by", 0, x.by());
        due("1 fault", NONE, x.fault());
        due("1 NONE", -1, TableTower.NONE);
    }

    private static void feed() {
        TableTower x = new TableTower();
        for (int i = 1; i <= 30; i++) {
            due("2 feed", 20 * i, x.feed(0x20202020, 0x20202020, 0x0a0a0a0a, 0x20202020, 0x20202020));
        }
        due("2 feed above 600", NONE, x.feed(0, 0, 0, 0, 0));
        due("2 none came", 600, x.count(11));
        due("2 the whole tape", 0, x.town(600));
        due("2 empty then", 0, x.count(11));
        // "oak 5 9 0 3;", the highest byte first, then a sign below 0.
        x.feed(0x6f616b20, 0x35203920, 0x3020333b, 0xff000000, -1);
        due("2 all twenty", 1, x.town(20));
        due("2 in their order", 12, x.fault());
    }

    private static void town() {
        TableTower x = Check.tower(FOUR);
        x.supper();
        x.wedge(0, 4);
        x.saw(1, 5);
        x.take(2);
        x.years(3);
        x.see(0, 1);
        x.put(0, 0);
        x.see(9, 9);
        x.image();
        Check.feed(x, "oak 5 9 0 3;oak 0");
        Check.thrown("3 town(-1)", IAE, () -> x.town(-1));
        Check.thrown("3 town(21)", IAE, () -> x.town(21));
        due("3 the tape stays", 20, x.count(11));
        due("3 a FAULT", 2, x.town(17));
        due("3 the tape is empty then", 0, x.count(11));
        due("3 all stays: TABLES", 4, x.count(0));
        due("3 all stays: WEDGE", 4, x.table(0, 6));
        due("3 all stays: ACTS", 5, x.count(9));
        due("3 all stays: SEEN", 1, x.count(10));
        due("3 all stays: LIMIT", 3, x.count(2));
        due("3 STATUS 0", 1, x.count(12));
        due("3 all stays: the image", true, x.restore());
        due("3 anew", 0, Check.tell(x, "oak 5 9 -1 3;"));
        due("3 TABLES", 1, x.count(0));
        due("3 LEVELS", 1, x.count(1));
        due("3 LIMIT", 9, x.count(2));
        due("3 FOOD", 100, x.count(3));
        due("3 CRUMBS", NONE, x.count(6));
        due("3 YEARS", 0, x.count(8));
        due("3 ACTS", 0, x.count(9));
        due("3 SEEN", 0, x.count(10));
        due("3 MEAL", 0, x.table(0, 5));
        due("3 WEDGE", 0, x.table(0, 6));
        due("3 LEAN", -1, x.table(0, 3));
        due("3 no image", false, x.restore());
        due("3 no ACT", NONE, x.undo());
        due("3 the rule is gone", 97, x.supper());
        due("3 STATUS 1 stays", 1, x.count(13));
        due("3 town(0)", 0, x.town(0));
        due("3 no TABLES", 0, x.count(0));
    }

    private static void fault() {
        TableTower x = new TableTower();
        Check.tell(x, "oak 1 1 1 100;");
        due("4 the place", 10, x.fault());
        Check.thrown("4 town(1)", IAE, () -> x.town(1));
        due("4 the place stays", 10, x.fault());
        Check.tell(x, "x");
        due("4 the latest", 0, x.fault());
        Check.tell(x, "");
        due("4 without", NONE, x.fault());
    }

    private static void count() {
        TableTower x = Check.tower("food 7;oak 5 9 0 3;oak 6 5 0 9;oak 1 9 -2 0;");
        int[] want = {3, 3, 9, 7, 1, NONE, NONE, 4, 0, 0, 0, 0, 0, 0, 0};
        for (int what = 0; what < want.length; what++) {
            due("5 count " + what, want[what], x.count(what));
        }
        Check.thrown("5 count(15)", NSE, () -> x.count(15));
        Check.thrown("5 count(-1)", NSE, () -> x.count(-1));
        // Eats 3, 4 and 0: LOADS 3 + 6 + 4 + 1 = 14 above 9, 4 + 1, 0.
        due("5 crumbs", 0, x.supper());
        x.see(0, 0);
        x.see(3, 0);
        x.put(0, 0);
        x.years(1);
        x.feed(0, 0, 0, 0, 0);
        int[] then = {3, 3, 9, 7, 0, 0, 0, 5, 1, 2, 1, 20, 0, 1, 1};
        for (int what = 0; what < then.length; what++) {
            due("5 then count " + what, then[what], x.count(what));
        }
        x.take(2);
        due("5 FULL of those in THE TOWER", 1, x.count(7));
        TableTower y = Check.tower("oak 1 9 5 0;oak 1 9 4 0;oak 1 9 1 0;oak 1 9 -9 0;");
        due("5 BREAKS by TILT", 2, y.count(5));
        y = Check.tower("limit 0;oak 1 1 0 0;castor 1 0 0 0;");
        due("5 LOAD as much as it carries", 1, y.count(4));
    }

    private static void table() {
        TableTower x = Check.tower("folding 7 21 -3 8;castor 1 4 2 6;pine 2 8 0 1;");
        int[] want = {2, 7, 21, -3, 8, 0, 0, 0};
        for (int what = 0; what < want.length; what++) {
            due("6 table(0, " + what + ")", want[what], x.table(0, what));
        }
        Check.thrown("6 what 8", NSE, () -> x.table(0, 8));
        Check.thrown("6 what -1", NSE, () -> x.table(0, -1));
        Check.thrown("6 table 3", NSE, () -> x.table(3, 0));
        Check.thrown("6 table -1", NSE, () -> x.table(-1, 0));
        x.supper();
        due("6 MEAL", 6, x.table(1, 5));
        x.take(0);
        due("6 by", NONE, x.table(0, 7));
        due("6 one lower", 0, x.table(1, 7));
        x.years(2);
        due("6 worm of a folding one", 17, x.table(0, 2));
        due("6 worm of a castor", 0, x.table(1, 2));
        due("6 worm of pine", 2, x.table(2, 2));
        x.years(1);
        due("6 not below 0", 0, x.table(2, 2));
    }

    private static void level() {
        TableTower x = Check.tower("limit 4;folding 7 21 3 8;castor 1 30 1 6;folding 2 9 -4 1;food 12;");
        due("7 the TABLE", 1, x.level(1, 0));
        due("7 LOAD below", 3, x.level(0, 1));
        due("7 LOAD at the top", 0, x.level(2, 1));
        due("7 a folding one carries half", 10, x.level(0, 2));
        due("7 at the top all", 9, x.level(2, 2));
        due("7 TILT", 3, x.level(0, 3));
        due("7 TILT of a castor", 5, x.level(1, 3));
        due("7 TILT at the top", 1, x.level(2, 3));
        due("7 doesn't hold", 0, x.level(1, 4));
        due("7 holds", 1, x.level(2, 4));
        x.supper();
        // Eats 8, 4, 0.
        due("7 LOAD with MEALS", 15, x.level(0, 1));
        due("7 LOAD with its own MEAL", 6, x.level(1, 1));
        due("7 loaded too much", 0, x.level(0, 4));
        x.years(3);
        due("7 half, then worm", 4, x.level(0, 2));
        x.wedge(1, -2);
        due("7 a castor's WEDGE counts twice", 1, x.level(1, 3));
        Check.thrown("7 level 3", NSE, () -> x.level(3, 0));
        Check.thrown("7 level -1", NSE, () -> x.level(-1, 0));
        Check.thrown("7 what 5", NSE, () -> x.level(0, 5));
        Check.thrown("7 what -1", NSE, () -> x.level(0, -1));
    }

    private static void by() {
        TableTower x = Check.tower(THREE);
        due("8 none", 0, x.by());
        x.take(2);
        x.take(0);
        due("8 two", 5, x.by());
        x.put(2, 0);
        due("8 one", 1, x.by());
    }

    private static void order(String what, TableTower x, int... want) {
        due(what + ": LEVELS", want.length, x.count(1));
        for (int i = 0; i < want.length; i++) {
            due(what + ": LEVEL " + i, want[i], x.level(i, 0));
        }
    }

    private static void put() {
        TableTower x = Check.tower(THREE);
        due("9 in THE TOWER", NONE, x.put(0, 0));
        x.take(0);
        x.take(1);
        due("9 LEVEL 2 of 1", NONE, x.put(0, 2));
        due("9 LEVEL -1", NONE, x.put(0, -1));
        due("9 STATUS", 3, x.count(13));
        due("9 ACTS", 2, x.count(9));
        Check.thrown("9 table 3", NSE, () -> x.put(3, 0));
        Check.thrown("9 table -1", NSE, () -> x.put(-1, 9));
        due("9 no STATUS by that", 3, x.count(13));
        due("9 on top", 2, x.put(0, 1));
        due("9 between", 3, x.put(1, 1));
        order("9", x, 2, 1, 0);
        due("9 ACTS", 4, x.count(9));
    }

    private static void take() {
        TableTower x = Check.tower(THREE);
        x.supper();
        x.wedge(1, 5);
        due("10 take", 1, x.take(1));
        order("10", x, 0, 2);
        due("10 its MEAL is gone", 0, x.table(1, 5));
        due("10 others' stay", 5, x.table(2, 5));
        due("10 its WEDGE stays", 5, x.table(1, 6));
        due("10 by", NONE, x.take(1));
        due("10 STATUS", 1, x.count(13));
        Check.thrown("10 table 3", NSE, () -> x.take(3));
        x.put(1, 0);
        due("10 no MEAL till the next SUPPER", 0, x.table(1, 5));
        due("10 LOAD without it", 5 + 1 + 5 + 3, x.level(0, 1));
    }

    private static void change() {
        TableTower x = Check.tower(THREE);
        due("11 change", true, x.change(0, 2));
        order("11", x, 2, 1, 0);
        due("11 the other way", true, x.change(1, 0));
        order("11", x, 1, 2, 0);
        due("11 both are one", false, x.change(1, 1));
        due("11 STATUS", 1, x.count(13));
        due("11 ACTS", 2, x.count(9));
        Check.thrown("11 level 3", NSE, () -> x.change(3, 0) ? 1 : 0);
        Check.thrown("11 other 3", NSE, () -> x.change(0, 3) ? 1 : 0);
        Check.thrown("11 both -1", NSE, () -> x.change(-1, -1) ? 1 : 0);
        due("11 STATUS stays", 1, x.count(13));
    }

    private static void wedge() {
        TableTower x = Check.tower(THREE);
        due("12 at first", 0, x.wedge(1, 9));
        due("12 then", 9, x.wedge(1, -9));
        due("12 now", -9, x.table(1, 6));
        due("12 TILT", -9, x.level(2, 3));
        due("12 below", 0, x.level(0, 3));
        due("12 10", -99, x.wedge(1, 10));
        due("12 -10", -99, x.wedge(1, -10));
        due("12 STATUS", 2, x.count(13));
        due("12 ACTS", 2, x.count(9));
        Check.thrown("12 table 3", NSE, () -> x.wedge(3, 99));
        x.take(1);
        due("12 of one that is by", -9, x.wedge(1, 2));
    }

    private static void saw() {
        TableTower x = Check.tower("oak 1 9 3 1;castor 1 9 -2 1;");
        due("13 saw", 3, x.saw(0, -9));
        due("13 saw again", -9, x.saw(0, 9));
        due("13 LEAN", 9, x.table(0, 3));
        due("13 TILT", 5, x.level(1, 3));
        due("13 10", -99, x.saw(0, 10));
        due("13 -10", -99, x.saw(0, -10));
        due("13 STATUS", 2, x.count(13));
        Check.thrown("13 table 2", NSE, () -> x.saw(2, 0));
        due("13 ACTS", 2, x.count(9));
    }

    private static void supper() {
        TableTower x = Check.tower(FOUR);
        due("14 crumbs", 0, x.supper());
        int[] meals = {5, 7, 4, 4};
        for (int i = 0; i < 4; i++) {
            due("14 MEAL " + i, meals[i], x.table(i, 5));
        }
        x.take(1);
        // In place of the old ones: 5, 6 - 1, 9 - 2.
        due("14 crumbs again", 3, x.supper());
        due("14 by", 0, x.table(1, 5));
        due("14 left, as it comes", 7, x.table(3, 5));
        due("14 ACTS", 3, x.count(9));
        due("14 CRUMBS", 3, x.count(6));
    }

    private static void years() {
        TableTower x = Check.tower("pine 1 999 0 1;oak 1 999 0 1;");
        due("15 0", NONE, x.years(0));
        due("15 31", NONE, x.years(31));
        due("15 -1", NONE, x.years(-1));
        due("15 most", NONE, x.years(Integer.MAX_VALUE));
        due("15 STATUS", 4, x.count(13));
        due("15 1", 1, x.years(1));
        x.take(0);
        due("15 30", 31, x.years(30));
        due("15 of those that are by, too", 999 - 93, x.table(0, 2));
        for (int i = 0; i < 32; i++) {
            x.years(30);
        }
        due("15 991", 991, x.count(8));
        due("15 above 999", NONE, x.years(9));
        due("15 999", 999, x.years(8));
        due("15 999 and 1", NONE, x.years(1));
        due("15 BEARS", 0, x.table(1, 2));
    }

    private static void undo() {
        TableTower x = Check.tower(FOUR);
        x.supper();
        x.take(1);
        x.put(1, 0);
        x.change(0, 2);
        x.wedge(3, 5);
        x.wedge(3, 6);
        x.saw(3, -5);
        x.years(4);
        x.supper();
        order("16", x, 2, 0, 1, 3);
        // 6, 5 - 1, 8 - 2, and 4 are left of 9 - 3.
        due("16 MEAL", 4, x.table(3, 5));
        due("16 undo a SUPPER", 8, x.undo());
        due("16 MEAL as it was", 4, x.table(3, 5));
        due("16 MEAL of one taken off", 0, x.table(1, 5));
        due("16 CRUMBS as they were", 0, x.count(6));
        due("16 undo YEARS", 7, x.undo());
        due("16 YEARS", 0, x.count(8));
        due("16 undo SAWN", 6, x.undo());
        due("16 LEAN", 1, x.table(3, 3));
        due("16 undo a WEDGE", 5, x.undo());
        due("16 WEDGE", 5, x.table(3, 6));
        due("16 undo the other WEDGE", 4, x.undo());
        due("16 no WEDGE", 0, x.table(3, 6));
        due("16 undo CHANGED", 3, x.undo());
        order("16", x, 1, 0, 2, 3);
        due("16 undo PUT", 2, x.undo());
        order("16", x, 0, 2, 3);
        due("16 undo TAKEN", 1, x.undo());
        order("16", x, 0, 1, 2, 3);
        due("16 its MEAL is on it again", 7, x.table(1, 5));
        due("16 undo the first SUPPER", 0, x.undo());
        due("16 no MEAL", 0, x.table(1, 5));
        due("16 no CRUMBS", NONE, x.count(6));
        due("16 there is none", NONE, x.undo());
        due("16 no STATUS", 0, x.count(13));
    }

    private static void actsKept() {
        TableTower x = Check.tower("oak 1 1 0 1;");
        for (int i = 1; i <= 45; i++) {
            x.wedge(0, i % 10);
            due("16 kept", Math.min(i, 40), x.count(9));
        }
        x.wedge(0, 99);
        due("16 what is refused is not kept", 40, x.count(9));
        for (int i = 39; i >= 0; i--) {
            due("16 left", i, x.undo());
        }
        due("16 the oldest five are not undone", 5, x.table(0, 6));
        due("16 none is left", NONE, x.undo());
    }

    private static void more() {
        due("17 without TABLES", 9999, new TableTower().more());
        TableTower x = Check.tower(FOUR);
        // 30 - 11, 20 - 6, 10 - 2, 15 - 0.
        due("17 more", 8, x.more());
        x.wedge(0, 3);
        due("17 leans too much", NONE, x.more());
        x = Check.tower("folding 1 9 0 1;");
        due("17 the highest one's, too", 9, x.more());
        x = Check.tower("oak 1 1 0 1;oak 1 9 0 1;");
        due("17 nothing more", 0, x.more());
        x = Check.tower("oak 1 0 0 1;oak 1 9 0 1;");
        due("17 doesn't stand", NONE, x.more());
    }

    private static void without() {
        TableTower x = Check.tower("limit 4;oak 9 9 4 1;folding 5 4 -4 1;oak 4 9 4 1;");
        // The folding one carries 2 of 4.
        due("18 as it is", 0, x.count(4));
        due("18 without 0: 4 on 2", false, x.without(0));
        due("18 without 1: TILT 8", false, x.without(1));
        due("18 without 2: at the top", true, x.without(2));
        order("18 nothing changes", x, 0, 1, 2);
        x.take(2);
        due("18 by", false, x.without(2));
        Check.thrown("18 table 3", NSE, () -> x.without(3) ? 1 : 0);
        TableTower one = Check.tower("oak 1 1 9 1;limit 0;");
        due("18 nothing left stands", true, one.without(0));
    }

    private static void mostAndRow() {
        // 0 carries nothing, 1 carries 5, 2 carries 6: 2 1 0 from below would do.
        TableTower x = Check.tower("oak 5 0 0 1;oak 1 5 0 1;oak 9 6 0 1;");
        due("19 how many", 3, x.most(0));
        due("19 as bits", 7, x.most(1));
        int[] row = {2, 1, 0};
        for (int i = 0; i < 3; i++) {
            due("20 row " + i, row[i], x.row(i));
        }
        Check.thrown("20 row 3", NSE, () -> x.row(3));
        Check.thrown("20 row -1", NSE, () -> x.row(-1));
        Check.thrown("19 what 2", NSE, () -> x.most(2));
        Check.thrown("19 what -1", NSE, () -> x.most(-1));
        x.take(2);
        due("19 of all TABLES", 3, x.most(0));
        x.years(1);
        // 4, 5 now: 5 of 0 and 1 together are 6 on 2's 5: only two, of like ones the least: 0 on 1 isn't (4 below 5).
        due("19 after a YEAR", 2, x.most(0));
        due("19 0 and 2", 5, x.most(1));
        due("20 2 below", 2, x.row(0));
        due("20 0 above", 0, x.row(1));
        x.undo();
        due("19 undone", 3, x.most(0));
        TableTower y = Check.tower("oak 1 9 0 9;oak 1 9 0 9;oak 1 9 0 9;limit 0;");
        due("20 the first row", 0, y.row(0));
        due("20 the first row", 2, y.row(2));
        y.wedge(0, 1);
        due("19 WEDGES as they are", 6, y.most(1));
        y.wedge(1, -1);
        // 0 and 1 are even together, but one of them lies below: 2 alone.
        due("19 TILT of each LEVEL", 1, y.most(0));
        due("19 the one", 4, y.most(1));
        TableTower z = Check.tower("oak 1 9 0 10;oak 1 9 0 1;");
        z.supper();
        due("19 MEALS as they are", 2, z.most(1));
        Check.thrown("20 no row", NSE, () -> z.row(1));
        TableTower none = Check.tower("oak 1 9 9 1;limit 8;");
        due("19 none", 0, none.most(0));
        Check.thrown("20 none", NSE, () -> none.row(0));
    }

    private static void orders() {
        due("21 without TABLES", 1, new TableTower().orders());
        TableTower x = Check.tower(THREE);
        due("21 all orders", 6, x.orders());
        x.take(0);
        due("21 of those in THE TOWER", 2, x.orders());
        x = Check.tower("oak 5 0 0 1;oak 1 5 0 1;oak 9 6 0 1;");
        due("21 one order", 1, x.orders());
        x = Check.tower("limit 3;oak 1 9 3 1;oak 1 9 3 1;oak 1 9 -3 1;");
        // + - +, - + +, and the two of + are two.
        due("21 by TILT", 4, x.orders());
        x.saw(2, 3);
        due("21 none", 0, x.orders());
        x = Check.tower("folding 9 10 0 1;folding 9 18 0 1;");
        due("21 a folding one below carries half", 1, x.orders());
    }

    private static void wedges() {
        due("22 without TABLES", 0, new TableTower().wedges());
        TableTower x = Check.tower("limit 2;oak 1 9 5 1;oak 1 9 -1 1;oak 1 9 4 1;");
        // 5 needs -3 (2, then 1, then 5): -3 more, or -4, -2: 6 in all, as each is needed.
        due("22 fewest", 6, x.wedges());
        x.wedge(0, 9);
        due("22 in place of all that there are", 6, x.wedges());
        x = Check.tower("limit 2;castor 1 9 5 1;");
        due("22 a castor's count twice", 4, x.wedges());
        x = Check.tower("limit 1;castor 1 9 5 1;");
        due("22 an odd LIMIT", 5, x.wedges());
        x = Check.tower("limit 0;castor 1 9 9 1;oak 1 9 -9 1;");
        due("22 the most of each", 18, x.wedges());
        x.take(0);
        due("22 of THE TOWER", 9, x.wedges());
    }

    private static void when() {
        TableTower x = Check.tower("pine 1 10 0 1;oak 1 99 0 1;");
        // 10 - 3 y is below 1 from y = 4 on (not below 0): 10 - 9 = 1 holds.
        due("23 when", 4, x.when());
        x.years(2);
        due("23 from now on", 2, x.when());
        x.years(3);
        due("23 doesn't stand", 0, x.when());
        due("23 without TABLES", NONE, new TableTower().when());
        x = Check.tower("pine 1 0 0 1;");
        due("23 never", NONE, x.when());
        x = Check.tower("oak 1 99 0 1;oak 1 0 0 1;");
        due("23 99", 99, x.when());
        x = Check.tower("oak 1 100 0 1;oak 1 0 0 1;");
        due("23 100 is too far", NONE, x.when());
    }

    private static void marriages() {
        due("24 without TABLES", 0, new TableTower().marriages());
        // 0 with all, the others with 0 alone (they bear 3, weigh 4; 0 weighs 3).
        TableTower x = Check.tower("oak 3 9 0 1;oak 4 3 0 1;oak 4 3 0 1;oak 4 3 0 1;");
        due("24 one", 1, x.marriages());
        // A row of four, 0 1 2 3: the couple 1 2 must not stand in the way of 0 1 and 2 3.
        x = Check.tower("oak 9 5 0 1;oak 5 9 0 1;oak 5 9 0 1;oak 9 5 0 1;");
        due("24 two", 2, x.marriages());
        x.take(0);
        due("24 of all", 2, x.marriages());
        x.years(1);
        due("24 worm", 1, x.marriages());
    }

    private static void marry() {
        TableTower x = Check.tower("folding 5 10 0 1;oak 5 5 0 9;folding 5 11 0 1;oak 6 5 0 1;");
        due("25 could", true, x.marry(0, 1));
        due("25 half, cut down", true, x.marry(1, 2));
        due("25 too heavy", false, x.marry(0, 3));
        due("25 the other way", false, x.marry(3, 0));
        Check.thrown("25 both are one", IAE, () -> x.marry(1, 1) ? 1 : 0);
        Check.thrown("25 no such TABLE", NSE, () -> x.marry(1, 4) ? 1 : 0);
        Check.thrown("25 no such TABLE first", NSE, () -> x.marry(4, 4) ? 1 : 0);
        Check.thrown("25 -1", NSE, () -> x.marry(-1, 0) ? 1 : 0);
        x.supper();
        x.take(0);
        due("25 MEALS count for nothing", true, x.marry(0, 1));
        x.years(1);
        due("25 half, then worm", false, x.marry(0, 1));
    }

    private static void nod() {
        TableTower x = Check.tower(FOUR);
        due("26 as much as it bears", NONE, x.nod(3, 8));
        due("26 it is felt below", 2, x.nod(3, 9));
        due("26 lower still", 1, x.nod(3, 15));
        due("26 at the lowest", 0, x.nod(3, 20));
        due("26 not above", 0, x.nod(0, 20));
        due("26 not above", NONE, x.nod(0, 19));
        due("26 99", 0, x.nod(1, 99));
        due("26 0", NONE, x.nod(1, 0));
        Check.thrown("26 100", IAE, () -> x.nod(0, 100));
        Check.thrown("26 -1", IAE, () -> x.nod(0, -1));
        Check.thrown("26 table 4", NSE, () -> x.nod(4, 100));
        x.wedge(0, 9);
        due("26 by TILT", 0, x.nod(3, 0));
        x.take(3);
        Check.thrown("26 by", NSE, () -> x.nod(3, 100));
        due("26 nothing is eaten", 0, x.table(0, 5));
    }

    private static void fair() {
        due("27 without TABLES", 0, new TableTower().fair());
        due("27 without a rule", 15, Check.tower(THREE).fair());
        due("27 a rule that gives too little", NONE, Check.tower(FOUR).fair());
        // The lowest takes half of what comes.
        TableTower x = Check.tower("oak 1 1 0 7;oak 1 1 0 5;takes (level=0)*(left/2)+(level=1)*left;");
        due("27 halves", 14, x.fair());
        x.change(0, 1);
        due("27 at a SUPPER now", 13, x.fair());
        x.take(0);
        due("27 of THE TOWER", 10, x.fair());
        due("27 not by FOOD that there is", NONE, Check.tower("oak 1 1 0 1;takes left=1000;").fair());
        due("27 999", 999, Check.tower("oak 1 1 0 1;takes left=999;").fair());
        due("27 no HUNGER", 0, Check.tower("oak 1 1 0 0;").fair());
        due("27 nothing is eaten", NONE, x.count(6));
    }

    private static void out() {
        // LIMIT 0: leans 1, 1, -2, 0.
        TableTower x = Check.tower("limit 0;oak 1 9 1 1;oak 1 9 1 1;oak 1 9 -2 1;oak 1 9 0 1;");
        due("28 all that lean", 6, x.out(0));
        due("28 with the even one", 7, x.out(3));
        x = Check.tower("limit 1;oak 1 9 1 1;oak 1 9 1 1;oak 1 9 -1 1;oak 1 9 0 1;");
        // 1 2 1 1: without 0 it stands.
        due("28 none", 0, x.out(0));
        due("28 of as few the least", 1, x.out(3));
        x.take(0);
        due("28 of THE TOWER", 0, x.out(2));
        TableTower y = Check.tower(FOUR);
        y.take(0);
        Check.thrown("28 by", NSE, () -> y.out(0));
        Check.thrown("28 table 4", NSE, () -> y.out(4));
        Check.thrown("28 table -1", NSE, () -> y.out(-1));
        due("28 alone", 0, Check.tower("oak 1 1 9 1;limit 0;").out(0));
    }

    private static void oneWedge() {
        due("29 it stands", NONE, Check.tower(FOUR).oneWedge());
        TableTower x = Check.tower("limit 3;oak 1 9 2 1;oak 1 9 3 1;");
        // TILTS 2, 5: LEVEL 0 by -5 to -2.
        due("29 the first", 45, x.oneWedge());
        x.change(0, 1);
        // TILTS 3, 5: TABLE 1 by -6 to -2.
        due("29 by LEVELS: the TABLE", 144, x.oneWedge());
        x.wedge(1, 3);
        due("29 in place of what it has", 144, x.oneWedge());
        x.wedge(1, -2);
        due("29 it stands by that", NONE, x.oneWedge());
        x = Check.tower("limit 3;oak 1 0 9 1;oak 1 9 9 1;");
        due("29 loaded too much", NONE, x.oneWedge());
        x = Check.tower("limit 1;castor 1 9 9 1;");
        due("29 a castor", 41, x.oneWedge());
        x = Check.tower("limit 0;oak 1 9 0 1;oak 1 9 4 1;");
        due("29 the higher one", 146, x.oneWedge());
        due("29 by 9", 59, Check.tower("limit 0;oak 1 9 -9 1;").oneWedge());
        due("29 by -9", 41, Check.tower("limit 0;oak 1 9 9 1;").oneWedge());
        due("29 nothing changes", 0, x.count(9));
        due("29 without TABLES", NONE, new TableTower().oneWedge());
    }

    private static void lifted() {
        TableTower x = Check.tower(THREE);
        due("30 none of them", 6, x.lifted(0, 10));
        due("30 on LEVEL 0", 6, x.lifted(7, 0));
        due("30 one on 1 or higher", 4, x.lifted(1, 1));
        due("30 two on 1 or higher", 2, x.lifted(5, 1));
        due("30 all on 1 or higher", 0, x.lifted(7, 1));
        due("30 one on 2", 2, x.lifted(4, 2));
        due("30 too high", 0, x.lifted(4, 3));
        Check.thrown("30 bits", IAE, () -> x.lifted(8, 0));
        Check.thrown("30 bits below 0", IAE, () -> x.lifted(-1, 0));
        Check.thrown("30 sea 11", IAE, () -> x.lifted(0, 11));
        Check.thrown("30 sea -1", IAE, () -> x.lifted(0, -1));
        x.take(2);
        due("30 what is by is none of them", 2, x.lifted(4, 5));
        due("30 the other", 1, x.lifted(5, 1));
        TableTower y = Check.tower("oak 5 0 0 1;oak 1 5 0 1;oak 9 6 0 1;");
        due("30 those that stand", 1, y.lifted(1, 2));
        due("30 those that stand", 0, y.lifted(4, 1));
    }

    private static void swap() {
        // 9 - 11 doesn't hold; 0 and 1 changed: 20 - 9, 9 - 1; 0 and 2: 30 - 18, 20 - 8, 9; 1 and 2: 9 - 11.
        TableTower x = Check.tower("oak 8 9 0 1;oak 10 20 0 1;oak 1 30 0 1;");
        due("31 none now", NONE, x.more());
        due("31 by which it stands", 2, x.swap());
        x.change(0, 1);
        due("31 now", 8, x.more());
        // 0 and 2 of it: 30 - 18 = 12, 9 - 10: no. 1 and 2: 20 - 9 = 11, 30 - 8, 9: 9.
        due("31 more than now", 12, x.swap());
        x.change(1, 2);
        due("31 then", 9, x.more());
        due("31 none is more", NONE, x.swap());
        x = Check.tower("oak 1 9 0 1;oak 1 9 0 1;oak 1 9 0 1;");
        due("31 as much is not more", NONE, x.swap());
        x = Check.tower("oak 5 9 0 1;oak 5 9 0 1;oak 1 9 0 1;oak 1 99 0 1;");
        // 9 - 7 = 2; 0 and 3: 99 - 11, 9 - 6 = 3; all others 2, or it doesn't stand.
        due("31 the lower, then the higher", 3, x.swap());
        x = Check.tower("oak 5 9 0 1;oak 1 8 0 1;oak 2 9 0 1;");
        // 9 - 3 = 6; 1 below 8 - 7, 2 below 9 - 6; 1 and 2 as it is.
        due("31 none", NONE, x.swap());
        x = Check.tower("limit 2;oak 1 9 2 1;oak 1 9 2 1;oak 1 9 -2 1;");
        // 0 and 2, 1 and 2: both stand by 7.
        due("31 of like ones the first", 2, x.swap());
        due("31 without TABLES", NONE, new TableTower().swap());
    }

    private static void slack() {
        TableTower x = Check.tower(FOUR);
        int[] want = {19, 14, 8, 15};
        for (int i = 0; i < 4; i++) {
            due("32 slack " + i, want[i], x.slack(i));
        }
        x.supper();
        due("32 loaded too much", -1, x.slack(0));
        x.wedge(0, 9);
        due("32 whatever its TILT", -1, x.slack(0));
        Check.thrown("32 level 4", NSE, () -> x.slack(4));
        Check.thrown("32 level -1", NSE, () -> x.slack(-1));
    }

    private static void broken() {
        TableTower x = Check.tower("oak 1 10 0 1;pine 1 20 0 1;oak 1 99 0 1;");
        due("33 now", NONE, x.broken(0));
        // 20 - 18 = 2, 20 - 21.
        due("33 in 6", NONE, x.broken(6));
        due("33 in 7", 1, x.broken(7));
        due("33 in 9", 0, x.broken(9));
        due("33 in 99", 0, x.broken(99));
        Check.thrown("33 100", IAE, () -> x.broken(100));
        Check.thrown("33 -1", IAE, () -> x.broken(-1));
        due("33 no YEAR goes by", 0, x.count(8));
        due("33 without TABLES", NONE, new TableTower().broken(99));
    }

    private static void crooked() {
        due("34 no LEVELS", NONE, new TableTower().crooked());
        TableTower x = Check.tower("oak 1 9 3 1;oak 1 9 -7 1;oak 1 9 8 1;oak 1 9 -8 1;");
        // 3, -4, 4, -4.
        due("34 without sign, the lowest", 1, x.crooked());
        x.wedge(3, -9);
        due("34 the highest", 3, x.crooked());
        due("34 all even", 0, Check.tower(THREE).crooked());
    }

    private static void top() {
        due("35 no LEVELS", NONE, new TableTower().top(5));
        Check.thrown("35 no LEVELS, 1000", IAE, () -> new TableTower().top(1000));
        TableTower x = Check.tower(FOUR);
        due("35 20", 4, x.top(20));
        due("35 16", 0, x.top(16));
        due("35 999", 6, x.top(999));
        due("35 0", 0, x.top(0));
        Check.thrown("35 1000", IAE, () -> x.top(1000));
        Check.thrown("35 -1", IAE, () -> x.top(-1));
        due("35 no MEAL lies there", 0, x.table(3, 5));
        due("35 no SUPPER", NONE, x.count(6));
    }

    private static void relief() {
        due("36 without TABLES", NONE, new TableTower().relief());
        due("36 alone", 0, Check.tower("limit 0;oak 1 9 9 1;").relief());
        TableTower x = Check.tower("limit 0;oak 1 9 1 1;oak 1 9 1 1;oak 1 9 1 1;");
        due("36 by none", NONE, x.relief());
        x = Check.tower("oak 9 20 0 1;oak 2 20 0 1;oak 6 20 0 1;oak 2 20 0 1;");
        // 20 - 10; without 0: 20 - 8, without 1: 20 - 8, without 2: 20 - 4, without 3: 20 - 8.
        due("36 most MORE", 2, x.relief());
        x.take(2);
        due("36 of like ones the least", 0, x.relief());
        x.change(0, 2);
        // 3 1 0: without 0 18, without 1 11, without 3 11.
        due("36 a TABLE, no LEVEL", 0, x.relief());
        order("36 nothing changes", x, 3, 1, 0);
    }

    private static void hungriest() {
        due("37 without TABLES", NONE, new TableTower().hungriest());
        TableTower x = Check.tower("food 9;oak 1 9 0 7;oak 1 9 0 9;oak 1 9 0 8;");
        due("37 no MEALS", 1, x.hungriest());
        x.supper();
        // 0, 7, 8.
        due("37 most above its MEAL", 2, x.hungriest());
        x.take(2);
        due("37 of THE TOWER", 1, x.hungriest());
        x.take(1);
        due("37 all are FULL", NONE, x.hungriest());
        x = Check.tower("oak 1 9 0 0;");
        due("37 no HUNGER", NONE, x.hungriest());
        x = Check.tower("oak 1 9 0 4;oak 1 9 0 4;");
        x.change(0, 1);
        due("37 of like ones the least", 0, x.hungriest());
    }

    private static void see() {
        TableTower x = Check.tower(THREE);
        due("38 LEVEL 3", NONE, x.see(3, 0));
        due("38 LEVEL -1", NONE, x.see(-1, 0));
        due("38 TILT 100", NONE, x.see(0, 100));
        due("38 TILT -100", NONE, x.see(0, -100));
        due("38 STATUS", 4, x.count(14));
        for (int i = 1; i <= 8; i++) {
            due("38 see", i, x.see(i % 3, i % 2 == 0 ? 99 : -99));
        }
        due("38 there are 8", NONE, x.see(0, 0));
        due("38 STATUS", 5, x.count(14));
        due("38 SEEN", 8, x.count(10));
        due("38 no ACT", 0, x.count(9));
    }

    private static void which() {
        TableTower x = Check.tower(FOUR);
        due("39 nothing SEEN", 72, x.which(0));
        due("39 the first of all", 41, x.which(1));
        due("39 so without", 1, x.which(2));
        // TILTS 1, -1, -1, 1.
        x.see(1, -1);
        due("39 those above", 36, x.which(0));
        due("39 the first of these", 241, x.which(1));
        x.see(3, 5);
        // By 4 more: 2 has 4, 3 (a castor) has 3.
        due("39 two", 2, x.which(0));
        due("39 the first", 254, x.which(1));
        due("39 not so without", 0, x.which(2));
        x.see(2, -1);
        due("39 one", 1, x.which(0));
        due("39 the castor", 353, x.which(1));
        x.see(3, 6);
        due("39 both can't be", 0, x.which(0));
        due("39 none", NONE, x.which(1));
        Check.thrown("39 what 3", NSE, () -> x.which(3));
        Check.thrown("39 what -1", NSE, () -> x.which(-1));
        TableTower z = Check.tower("castor 1 9 -9 1;");
        z.see(0, 18);
        due("39 LEAN 9 alone", 1, z.which(0));
        due("39 LEAN 9", 59, z.which(1));
        TableTower y = Check.tower("oak 1 9 1 1;oak 1 9 1 1;");
        y.see(1, 2);
        y.take(1);
        due("39 a LEVEL that is gone", 0, y.which(0));
        due("39 a LEVEL that is gone", 0, y.which(2));
    }

    private static void look() {
        due("40 without any", NONE, new TableTower().look());
        TableTower x = Check.tower(FOUR);
        x.see(3, 4);
        // (0: 4), (1: 1), (2: 3): at LEVEL 0 4, 1, 1; at 1 2, 2, -1; at 2 2, 2, 2.
        due("40 of like ones the lowest", 0, x.look());
        x.see(0, 1);
        // (1: 1), (2: 3): told apart at LEVEL 1 alone.
        due("40 told apart", 1, x.look());
        x.see(3, 5);
        due("40 none", NONE, x.look());
        x = Check.tower("oak 1 9 0 1;oak 1 9 9 1;");
        // At 0: 18 and the TILT as it is, 19; at 1: -9 .. 9 and -9 .. 9 less its own, -18 to -1 from 9: more.
        due("40 at the higher one", 1, x.look());
        // At 0: 18 of the lower one and as it is; at 1: 18 of it, of the castor by -36 to -20, -18 itself is of both.
        due("40 the farthest", 1, Check.tower("oak 1 9 9 1;castor 1 9 9 1;").look());
        x = Check.tower("oak 1 9 0 1;oak 1 9 0 1;");
        // At 0: -9 to 9; at 1: -9 to 9, but for the TILT as it is.
        due("40 as it is, is none of these", 0, x.look());
        x = Check.tower("castor 1 9 9 1;castor 1 9 -9 1;");
        x.see(1, -36);
        // The lower one by -9 alone: the higher one would have to lean by -27.
        due("40 by 36", 0, x.look());
        x = Check.tower("oak 1 9 0 1;castor 1 9 9 1;oak 1 9 9 1;");
        x.see(0, 0);
        x.see(2, 9);
        // (1: 0), (2: -9): at LEVEL 1 0 and 18.
        due("40 told apart by 18", 1, x.look());
    }

    private static void forget() {
        TableTower x = Check.tower(FOUR);
        x.see(0, 5);
        x.see(1, 5);
        x.see(7, 7);
        x.forget();
        due("41 SEEN", 0, x.count(10));
        due("41 so without", 1, x.which(2));
        due("41 STATUS stays", 1, x.count(14));
        due("41 see", 1, x.see(0, 1));
        due("41 which", 1, x.which(2));
    }

    private static void game() {
        due("42 without TABLES", 0, new TableTower().game(0));
        due("42 one LEVEL", 0, Check.tower("oak 1 9 0 1;").game(0));
        due("42 one LEVEL", NONE, Check.tower("oak 1 9 0 1;").game(1));
        TableTower x = Check.tower("oak 1 99 0 1;oak 1 99 0 1;");
        due("42 both eat all", 1, x.game(0));
        due("42 both eat all", 99, x.game(1));
        x = Check.tower("oak 1 11 0 1;oak 1 99 0 1;");
        // 10 for both: 1 9, 2 8 .. 9 1 rest.
        due("42 what is shared", 9, x.game(0));
        due("42 the first", 19, x.game(1));
        x = Check.tower("oak 1 99 0 1;oak 1 4 0 1;");
        due("42 the highest's own", 94, x.game(1));
        x = Check.tower("oak 1 0 0 1;oak 1 4 0 1;");
        due("42 it falls anyway", 99, x.game(1));
        due("42 it falls anyway", 1, x.game(0));
        Check.thrown("42 what 2", NSE, () -> Check.tower(THREE).game(2));
        Check.thrown("42 what -1", NSE, () -> new TableTower().game(-1));
        x = Check.tower("oak 1 1 0 1;oak 1 9 0 1;");
        // Nothing can be eaten: 0 0 rests; so does 9 9, as neither alone can help.
        due("42 0 0 and 9 9", 2, x.game(0));
        due("42 0 0 first", 0, x.game(1));
    }

    private static void decades() {
        TableTower none = new TableTower();
        due("43 without TABLES", 40, none.decades(1, 40, 0));
        due("43 without LEVELS", 0, none.decades(1, 40, 2));
        Check.thrown("43 what 3", NSE, () -> none.decades(1, 41, 3));
        Check.thrown("43 what -1", NSE, () -> none.decades(1, -1, -1));
        Check.thrown("43 n 41", IAE, () -> none.decades(1, 41, 0));
        Check.thrown("43 n -1", IAE, () -> none.decades(1, -1, 2));
        // Pine alone, bearing 0 and with no HUNGER: LEANS alone count.
        TableTower x = Check.tower("pine 1 7 0 5;oak 1 9 0 1;");
        // 7 - 3 y carries 1 for two YEARS.
        due("43 it stood", 2, Check.tower("pine 1 7 0 0;oak 1 99 0 0;").decades(3, 3, 0));
        due("43 the first not", 3, Check.tower("pine 1 7 0 0;oak 1 99 0 0;").decades(3, 9, 1));
        due("43 now", 0, x.decades(3, 0, 0));
        due("43 none", NONE, x.decades(3, 0, 1));
        due("43 LOAD now", 1, x.decades(3, 0, 2));
        drawn();
        due("43 nothing changes", 0, x.count(8));
    }

    /** Draws as the document's words say them, with longs in place of ints that wrap. */
    private static void drawn() {
        for (int seed : new int[] {0, 1, -1, 5, 123456789, Integer.MIN_VALUE, Integer.MAX_VALUE}) {
            long z = seed & 0xffffffffL;
            int meal = 0;
            int lean = 0;
            int stood = 0;
            for (int year = 1; year <= 40; year++) {
                z = (z * 1103515245L + 12345L) & 0xffffffffL;
                int table = (int) (z >> 16 & 0x7fff) % 3;
                z = (z * 1103515245L + 12345L) & 0xffffffffL;
                int what = (int) (z >> 16 & 0x7fff) % 5;
                if (table == 1) {
                    lean = Math.max(-9, Math.min(9, lean + (what == 0 ? 1 : what == 1 ? -1 : 0)));
                    meal += what == 2 ? 7 : 0;
                }
                stood += Math.abs(lean) <= 0 ? 1 : 0;
            }
            TableTower x = Check.tower("limit 0;oak 9 999 9 9;oak 9 999 0 7;oak 9 999 9 9;");
            x.take(0);
            x.take(2);
            due("43 LOAD by seed " + seed, meal, x.decades(seed, 40, 2));
            due("43 stood by seed " + seed, stood, x.decades(seed, 40, 0));
        }
    }

    private static void imageAndRestore() {
        TableTower x = Check.tower(FOUR);
        due("45 there is none", false, x.restore());
        x.supper();
        x.take(1);
        x.wedge(0, 2);
        x.saw(3, 4);
        x.years(5);
        x.see(0, 3);
        x.put(0, 0);
        x.see(9, 9);
        Check.tell(x, "x");
        x.image();
        x.put(1, 0);
        x.change(0, 3);
        x.supper();
        x.wedge(0, -2);
        x.saw(3, -4);
        x.years(6);
        x.see(1, 1);
        x.put(0, 0);
        x.put(0, 0);
        x.see(9, 9);
        Check.tell(x, "  y");
        x.feed(0, 0, 0, 0, 0);
        for (int time = 0; time < 2; time++) {
            due("45 restore", true, x.restore());
            order("45", x, 0, 2, 3);
            due("45 MEAL", 4, x.table(3, 5));
            due("45 MEAL of one that is by", 0, x.table(1, 5));
            due("45 CRUMBS", 0, x.count(6));
            due("45 WEDGE", 2, x.table(0, 6));
            due("45 LEAN", 4, x.table(3, 3));
            due("45 YEARS", 5, x.count(8));
            due("45 ACTS", 5, x.count(9));
            due("45 SEEN", 1, x.count(10));
            due("45 what is SEEN", 1, x.which(2));
            due("45 STATUS 0", 1, x.count(12));
            due("45 STATUS 1", 1, x.count(13));
            due("45 STATUS 2", 1, x.count(14));
            due("45 the tape stays", 20, x.count(11));
            due("45 the place stays", 2, x.fault());
            due("45 undo", 4, x.undo());
            due("45 undone", 0, x.count(8));
            x.undo();
            x.undo();
            x.undo();
            due("45 undone", 7, x.table(1, 5));
            // With its MEAL 0 would carry 31, 1 would carry more still.
            due("45 most", 3, x.most(0));
            x.saw(0, 9);
            x.forget();
        }
        TableTower y = Check.tower("limit 0;oak 1 9 0 1;");
        y.image();
        y.wedge(0, 1);
        due("45 most before", 0, y.most(0));
        y.restore();
        due("45 most as it was", 1, y.most(0));
        due("45 row as it was", 0, y.row(0));
        x.image();
        x.saw(0, 1);
        x.restore();
        due("44 in place of another one", 9, x.table(0, 3));
        due("44 its ACTS", 2, x.count(9));
    }

    private static void tenTables() {
        StringBuilder text = new StringBuilder();
        for (int i = 0; i < 10; i++) {
            text.append("oak 1 99 0 5;");
        }
        TableTower x = Check.tower(text.toString());
        due("19 ten", 10, x.most(0));
        due("19 ten", 1023, x.most(1));
        due("20 ten", 9, x.row(9));
        due("21 ten", 3628800, x.orders());
        due("30 ten", 362880, x.lifted(1 << 9, 9));
        due("30 ten", 3628800 / 2, x.lifted(1 << 9, 5));
        due("24 ten", 5, x.marriages());
        due("31 ten", NONE, x.swap());
        due("9 ten", NONE, x.put(0, 10));
        for (int i = 0; i < 9; i++) {
            x.take(i);
        }
        due("21 one", 1, x.orders());
        due("18 one", true, x.without(9));
        due("28 one", 0, x.out(9));
        due("39 one", 18, x.which(0));
        due("39 one", 941, x.which(1));
    }
}
