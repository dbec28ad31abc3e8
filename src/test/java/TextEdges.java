import static java.util.Collections.nCopies;

import java.util.List;

/** Edges of a new object, the tape, the TEXT with its FAULTS, and the EXPR of TAKES. */
final class TextEdges {
    private static final int NONE = TableTower.NONE;
    private static final String ONE = "oak 1 9 0 1;";
    private static final String TEN = String.join("", nCopies(10, ONE));
    private static final int BLANKS = 0x20202020;

    private TextEdges() {
    }

    static void all() {
        newObject();
        feed();
        town();
        townWithAFault();
        townNeedsTheBytes();
        fault();
        tables();
        limitAndFood();
        sixHundredBytes();
        tokens();
        lines();
        expressions();
        arithmetic();
        holding();
        values();
        placesOfFaults();
        faultOne();
        faultTwo();
        faultTwoWithin();
        faultThree();
        faultFour();
    }

    private static void fault(String text, int which, int place) {
        TableTower x = new TableTower();
        Edge.due("town of '" + text + "'", which, Check.tell(x, text));
        Edge.due("fault() of '" + text + "'", place, x.fault());
        Edge.due("STATUS 0 after '" + text + "'", which == 0 ? 0 : 1, x.count(12));
    }

    private static void good(String text) {
        fault(text, 0, NONE);
    }

    /** What one castor of WEIGHT 7 and HUNGER 5 takes by a rule of FOOD 999. */
    private static void gives(String rule, int want) {
        TableTower x = Edge.tower("food 999;castor 7 1 0 5;takes " + rule + ";");
        x.supper();
        Edge.due("takes " + rule, want, x.table(0, 5));
    }

    private static void newObject() {
        Edge.of(1, "No TABLES.");
        TableTower x = new TableTower();
        Edge.due("TABLES", 0, x.count(0));
        Edge.due("LEVELS", 0, x.count(1));
        Edge.due("by", 0, x.by());
        Edge.due("YEARS", 0, x.count(8));
        Edge.due("ACTS", 0, x.count(9));
        Edge.due("SEEN", 0, x.count(10));
        Edge.due("bytes", 0, x.count(11));
        for (int status = 12; status <= 14; status++) {
            Edge.due("STATUS", 0, x.count(status));
        }
        Edge.noSuch("TABLE 0", () -> x.table(0, 0));
        Edge.noSuch("LEVEL 0", () -> x.level(0, 0));
        Edge.of(Edge.TERMS, "`NONE = -1`: There is none.");
        Edge.due("NONE", -1, TableTower.NONE);
    }

    private static void feed() {
        Edge.of(2, "Twenty bytes come behind the tape, of each number the highest first: how many it has");
        TableTower x = new TableTower();
        // "oak 5 9 0 3;limit 4;" and behind it "food 7;" and blanks.
        Edge.due("twenty", 20, x.feed(0x6f616b20, 0x35203920, 0x3020333b, 0x6c696d69, 0x7420343b));
        Edge.due("forty", 40, x.feed(0x666f6f64, 0x20373b20, BLANKS, BLANKS, BLANKS));
        Edge.due("town", 0, x.town(40));
        Edge.due("WEIGHT", 5, x.table(0, 1));
        Edge.due("HUNGER", 3, x.table(0, 4));
        Edge.due("LIMIT", 4, x.count(2));
        Edge.due("FOOD", 7, x.count(3));
        x.feed(-1, BLANKS, BLANKS, BLANKS, BLANKS);
        Edge.due("bytes of 255", 1, x.town(20));
        Edge.due("bytes of 255", 0, x.fault());
        for (int byteOfFirst = 0; byteOfFirst < 4; byteOfFirst++) {
            int wrong = BLANKS ^ 1 << 24 - 8 * byteOfFirst;
            x.feed(BLANKS, BLANKS, wrong, BLANKS, BLANKS);
            x.town(20);
            Edge.due("byte " + byteOfFirst + " of a number", 8 + byteOfFirst, x.fault());
        }

        Edge.of(2, "NONE, and none come, if it would have more than 600");
        TableTower y = new TableTower();
        for (int i = 1; i <= 29; i++) {
            Edge.due("feed", 20 * i, y.feed(BLANKS, BLANKS, BLANKS, BLANKS, BLANKS));
        }
        Edge.due("just 600", 600, y.feed(0x6c696d69, 0x7420353b, BLANKS, BLANKS, BLANKS));
        List<Integer> before = Edge.shot(y);
        Edge.due("620", NONE, y.feed(-1, -1, -1, -1, -1));
        Edge.due("620 again", NONE, y.feed(0, 0, 0, 0, 0));
        Edge.same("nothing is otherwise", before, Edge.shot(y));
        Edge.wrong("601 bytes", () -> y.town(601));
        Edge.due("the 600 are as they were", 0, y.town(600));
        Edge.due("its LIMIT", 5, y.count(2));
        Edge.due("there is room again", 20, y.feed(0, 0, 0, 0, 0));
    }

    private static void town() {
        Edge.of(3, "The tape's first n bytes (it is empty then) are a TOWN");
        TableTower x = new TableTower();
        Check.feed(x, ONE + "x" + ONE);
        Edge.due("the first 12 of 40", 0, x.town(12));
        Edge.due("TABLES", 1, x.count(0));
        Edge.due("empty then", 0, x.count(11));
        Check.feed(x, ONE);
        Edge.due("0 bytes of 20", 0, x.town(0));
        Edge.due("no TABLES", 0, x.count(0));
        Edge.due("empty then, too", 0, x.count(11));
        Check.feed(x, "x");
        Edge.due("with a FAULT", 1, x.town(1));
        Edge.due("empty then, too", 0, x.count(11));

        Edge.of(3, "all anew: 0, or the FAULT");
        TableTower y = Edge.tower("limit 3;food 20;takes 7;pine 2 8 1 4;folding 3 9 2 5;");
        Edge.due("anew", 0, Check.tell(y, "castor 5 6 -7 8;"));
        int[] counts = {1, 1, 9, 100};
        for (int what = 0; what < counts.length; what++) {
            Edge.due("count " + what, counts[what], y.count(what));
        }
        int[] of = {3, 5, 6, -7, 8, 0, 0, 0};
        for (int what = 0; what < of.length; what++) {
            Edge.due("table " + what, of[what], y.table(0, what));
        }
        Edge.noSuch("TABLE 1", () -> y.table(1, 0));
        Edge.due("no rule", 92, y.supper());
        Edge.due("a FAULT", 2, Check.tell(y, "limit 41;"));

        Edge.of(3, "ACTS, MEALS, WEDGES, what is SEEN, the image are gone.");
        TableTower z = busy();
        Edge.due("anew", 0, Check.tell(z, "oak 4 9 2 1;oak 4 9 3 1;oak 4 9 -4 1;"));
        Edge.due("ACTS", 0, z.count(9));
        Edge.due("undo", NONE, z.undo());
        Edge.due("CRUMBS", NONE, z.count(6));
        Edge.due("YEARS", 0, z.count(8));
        Edge.due("worm", 9, z.table(0, 2));
        Edge.due("by", 0, z.by());
        Edge.due("SEEN", 0, z.count(10));
        Edge.due("so without", 1, z.which(2));
        int[] leans = {2, 3, -4};
        for (int table = 0; table < 3; table++) {
            Edge.due("MEAL", 0, z.table(table, 5));
            Edge.due("WEDGE", 0, z.table(table, 6));
            Edge.due("LEAN", leans[table], z.table(table, 3));
        }
        Edge.order("as they are told", z, 0, 1, 2);
        Edge.due("the image", false, z.restore());
        // STATUS is not among what is gone.
        Edge.due("STATUS 1", 1, z.count(13));
        Edge.due("STATUS 2", 1, z.count(14));
    }

    /** Three TABLES, of which all that can be done has been done, an image, and a refused call of each kind. */
    private static TableTower busy() {
        TableTower x = Edge.tower("limit 30;oak 1 50 0 5;oak 2 50 0 5;oak 3 50 0 5;");
        x.supper();
        x.take(1);
        x.wedge(0, 3);
        x.wedge(1, 2);
        x.saw(2, 4);
        x.years(6);
        x.see(0, 3);
        x.put(0, 0);
        x.see(2, 0);
        x.image();
        return x;
    }

    private static void townWithAFault() {
        Edge.of(3, "(all stays, but STATUS)");
        TableTower x = busy();
        Check.feed(x, "limit 3;pine 1 1 1 1;takes 3;food 5;x");
        List<Integer> before = Edge.shot(x);
        Edge.due("a FAULT", 1, x.town(37));
        before.set(11, 0);
        before.set(12, 1);
        before.set(15, 36);
        Edge.same("all stays but the tape, STATUS 0, the place", before, Edge.shot(x));
        Edge.due("the rule, too", 85 + 5, x.supper());
        Edge.due("what can be undone", 6, x.undo());
        Edge.due("the image", true, x.restore());
        Edge.due("STATUS as in the image", 0, x.count(12));

        Edge.of(Edge.TERMS, "0 TEXTS with a FAULT");
        TableTower y = new TableTower();
        String[] texts = {"x", "limit 41;", "takes x;", "food 1;food 1;"};
        for (int i = 0; i < 4; i++) {
            Edge.due("FAULT", i + 1, Check.tell(y, texts[i]));
            Edge.due("STATUS 0", i + 1, y.count(12));
        }
        Edge.due("without a FAULT", 0, Check.tell(y, ONE));
        Edge.due("STATUS 0 stays", 4, y.count(12));
        Edge.due("STATUS 1", 0, y.count(13));
        Edge.due("STATUS 2", 0, y.count(14));
    }

    private static void townNeedsTheBytes() {
        Edge.of(3, "the tape has not so many, n below 0 (nothing changes)");
        TableTower x = new TableTower();
        Edge.wrongAndSame("1 of 0", x, () -> x.town(1));
        Check.tell(x, "  x");
        Check.feed(x, ONE);
        Edge.wrongAndSame("21 of 20", x, () -> x.town(21));
        Edge.wrongAndSame("-1", x, () -> x.town(-1));
        Edge.wrongAndSame("the least", x, () -> x.town(Integer.MIN_VALUE));
        Edge.wrongAndSame("the greatest", x, () -> x.town(Integer.MAX_VALUE));
        Edge.due("the place stays", 2, x.fault());
        Edge.due("the bytes stay", 0, x.town(12));
        Edge.due("its TABLE", 1, x.count(0));
        Check.feed(x, "x" + " ".repeat(19));
        Edge.due("just as many", 1, x.town(20));
        Edge.due("0 of 0", 0, x.town(0));
    }

    private static void fault() {
        Edge.of(4, "The place of the latest town()'s FAULT; NONE without.");
        TableTower x = new TableTower();
        Edge.due("no town() yet", NONE, x.fault());
        Check.tell(x, "oak 1 1 1 100;");
        Edge.due("the place", 10, x.fault());
        Edge.due("told again", 10, x.fault());
        Check.tell(x, "limit 1;  limit 1;");
        Edge.due("the latest", 10, x.fault());
        Check.tell(x, "x");
        Edge.due("at 0", 0, x.fault());
        Check.tell(x, ONE);
        Edge.due("without", NONE, x.fault());
    }

    private static void tables() {
        Edge.of(Edge.TERMS, "TABLES 0, 1 .. (at most 10)");
        TableTower ten = Edge.tower(TEN);
        Edge.due("ten", 10, ten.count(0));
        Edge.due("the tenth", 1, ten.table(9, 1));
        Edge.noSuch("the eleventh", () -> ten.table(10, 1));
        fault(TEN + ONE, 2, 120);

        Edge.of(Edge.TERMS, "a KIND (0 pine, 1 oak, 2 folding, 3 castor)");
        TableTower kinds = Edge.tower("pine 1 1 1 1;oak 1 1 1 1;folding 1 1 1 1;castor 1 1 1 1;");
        for (int kind = 0; kind < 4; kind++) {
            Edge.due("KIND", kind, kinds.table(kind, 0));
        }
        fault("table 1 1 1 1;", 1, 0);

        Edge.of(Edge.TERMS, "WEIGHT (1 to 99)");
        Edge.due("the least", 1, Edge.tower("oak 1 9 0 1;").table(0, 1));
        Edge.due("the most", 99, Edge.tower("oak 99 9 0 1;").table(0, 1));
        fault("oak 0 9 0 1;", 2, 4);
        fault("oak 100 9 0 1;", 2, 4);

        Edge.of(Edge.TERMS, "BEARS (0 to 999)");
        Edge.due("the least", 0, Edge.tower("oak 1 0 0 1;").table(0, 2));
        Edge.due("the most", 999, Edge.tower("oak 1 999 0 1;").table(0, 2));
        fault("oak 1 1000 0 1;", 2, 6);

        Edge.of(Edge.TERMS, "LEAN (-9 to 9)");
        Edge.due("the least", -9, Edge.tower("oak 1 9 -9 1;").table(0, 3));
        Edge.due("the most", 9, Edge.tower("oak 1 9 9 1;").table(0, 3));
        fault("oak 1 9 10 1;", 2, 8);
        fault("oak 1 9 -10 1;", 2, 9);

        Edge.of(Edge.TERMS, "HUNGER (0 to 99)");
        Edge.due("the least", 0, Edge.tower("oak 1 9 0 0;").table(0, 4));
        Edge.due("the most", 99, Edge.tower("oak 1 9 0 99;").table(0, 4));
        fault("oak 1 9 0 100;", 2, 10);

        Edge.of(Edge.TERMS, "LEVEL 0 the lowest; at first all, as they are told");
        Edge.order("at first", Edge.tower("oak 1 9 0 1;pine 2 9 0 1;castor 3 9 0 1;"), 0, 1, 2);
        Edge.due("the lowest bears the others", 5, Edge.tower("oak 1 9 0 1;pine 2 9 0 1;castor 3 9 0 1;").level(0, 1));
    }

    private static void limitAndFood() {
        Edge.of(Edge.TERMS, "LIMIT (0 to 40; 9 without)");
        Edge.due("the least", 0, Edge.tower("limit 0;").count(2));
        Edge.due("the most", 40, Edge.tower("limit 40;").count(2));
        Edge.due("without", 9, Edge.tower(ONE).count(2));
        Edge.due("a new object", 9, new TableTower().count(2));
        fault("limit 41;", 2, 6);

        Edge.of(Edge.TERMS, "FOOD (0 to 999; 100 without)");
        Edge.due("the least", 0, Edge.tower("food 0;").count(3));
        Edge.due("the most", 999, Edge.tower("food 999;").count(3));
        Edge.due("without", 100, Edge.tower(ONE).count(3));
        Edge.due("a new object", 100, new TableTower().count(3));
        fault("food 1000;", 2, 5);
    }

    private static void sixHundredBytes() {
        Edge.of(Edge.TERMS, "A TEXT of at most 600 bytes tells it.");
        String row = "takes 1" + "+1".repeat(296) + ";";
        Edge.due("as long as can be", 600, row.length());
        TableTower x = Edge.tower("");
        Edge.due("a rule of 600 bytes", 0, Check.tell(x, row));
        TableTower y = new TableTower();
        Edge.due("the 600th is looked at", 1, Check.tell(y, " ".repeat(599) + "x"));
        Edge.due("its place", 599, y.fault());
        String told = "food 999;" + ONE + "takes 1" + "+1".repeat(285) + ";";
        TableTower z = Edge.tower(told + " ".repeat(600 - told.length()));
        z.supper();
        Edge.due("all of it counts", 286, z.table(0, 5));
    }

    private static void tokens() {
        Edge.of(Edge.TERMS, "words (a .. z, the longest row)");
        fault("oakx 1 9 0 1;", 1, 0);
        fault("oak oak", 1, 4);
        for (String word : new String[] {"pine", "oak", "folding", "castor", "limit", "food", "takes"}) {
            for (int i = 0; i < word.length(); i++) {
                fault(word.substring(0, i) + "q" + word.substring(i + 1) + " 1", 1, 0);
            }
        }
        fault("takes levelx;", 3, 6);
        fault("takes aazz;", 3, 6);
        fault("takes `a;", 1, 6);
        fault("takes {a;", 1, 6);
        fault("takes A;", 1, 6);
        good("oak1 9 0 1;takes 1and 1or level;");

        Edge.of(Edge.TERMS, "NUMBERS (1 to 4 digits)");
        good("takes 0+9+10+99+100+999+1000+9999;");
        fault("takes 10000;", 2, 6);
        fault("takes :;", 1, 6);
        good("oak 0001 0009 0000 0001;limit 0040;food 0999;");
        fault("oak 00001 9 0 1;", 2, 4);

        Edge.of(Edge.TERMS, "signs ; ( ) + - * / < =");
        good("takes (1+2-3*4/5)<6;");
        good("takes 1=1;");
        for (String sign : new String[] {">", "!", ",", ".", "[", "]", "|", "%", "&", "'", "\"", "^", "_", ":"}) {
            fault("takes 1" + sign + "1;", 1, 7);
        }

        Edge.of(Edge.TERMS, "blanks (32, 10) between them count for nothing");
        good(" \n oak\n1 \n9\n-\n0 1\n;\n ");
        good("takes( 1 )\n;");
        for (int blank : new int[] {0, 9, 11, 12, 13, 31, 33, 127, 160, 255}) {
            fault("oak" + (char) blank + "1 9 0 1;", 1, 3);
        }
        fault("o ak 1 9 0 1;", 1, 0);
        fault("oak 1 9 0 1 0;", 1, 12);
    }

    private static void lines() {
        Edge.of(Edge.TERMS, "TOWN: LINE*.");
        good("");
        good("\n");
        good(ONE + "limit 1;" + ONE);
        fault(";", 1, 0);
        fault(ONE + ";", 1, 12);

        Edge.of(Edge.TERMS, "WEIGHT BEARS ['-'] LEAN HUNGER");
        good("oak 1 9 -1 1;");
        good("oak 1 9-1 1;");
        fault("oak -1 9 1 1;", 1, 4);
        fault("oak 1 -9 1 1;", 1, 6);
        fault("oak 1 9 1 -1;", 1, 10);
        fault("oak 1 9 +1 1;", 1, 8);
        fault("oak 1 9 --1 1;", 1, 9);
        fault("oak 1 9 1;", 1, 9);
        fault("oak 1 9 1 1 1;", 1, 12);

        Edge.of(Edge.TERMS, "('limit' | 'food') NUMBER | 'takes' EXPR) ';'");
        good("takes 1;food 1;limit 1;");
        fault("limit ;", 1, 6);
        fault("limit -1;", 1, 6);
        fault("food (1);", 1, 5);
        fault("limit 1 1;", 1, 8);
        fault("limit 1 food 1;", 1, 8);
        fault("takes ;", 1, 6);
        fault("takes 1 limit 1;", 1, 8);

        Edge.of(Edge.TERMS, "(LEAN 0 to 9, with '-' below 0)");
        Edge.due("-1", -1, Edge.tower("oak 1 9 -1 1;").table(0, 3));
        Edge.due("0", 0, Edge.tower("oak 1 9 0 1;").table(0, 3));
        Edge.due("-0", 0, Edge.tower("oak 1 9 -0 1;").table(0, 3));
    }

    private static void expressions() {
        Edge.of(Edge.TERMS, "EXPR: AND ('or' AND)*.");
        gives("0 or 0 or 5", 1);
        gives("1 or 1 and 0", 1);
        fault("takes or 1;", 3, 6);
        fault("takes 1 or;", 1, 10);

        Edge.of(Edge.TERMS, "AND: NOT ('and' NOT)*.");
        gives("1 and 2 and 3", 1);
        gives("1 and 2 and 0", 0);
        gives("1 and not 0", 1);
        fault("takes 1 and;", 1, 11);

        Edge.of(Edge.TERMS, "NOT: 'not' NOT | SUM [('<' | '=') SUM].");
        gives("not not 5", 1);
        gives("not 1=2", 1);
        gives("not 2+1<3", 1);
        fault("takes 1<2<3;", 1, 9);
        fault("takes 1=2=3;", 1, 9);
        fault("takes 1<2=3;", 1, 9);
        fault("takes 1<not 2;", 3, 8);
        good("takes (1<2)<3;");

        Edge.of(Edge.TERMS, "SUM: PRODUCT (('+' | '-') PRODUCT)*.");
        gives("9-2*3", 3);
        gives("2*3-5", 1);
        fault("takes -1;", 1, 6);
        fault("takes 1+-1;", 1, 8);
        fault("takes 1-;", 1, 8);

        Edge.of(Edge.TERMS, "PRODUCT: PART (('*' | '/') PART)*.");
        gives("2*3*4/6", 4);
        fault("takes *1;", 1, 6);
        fault("takes 1/;", 1, 8);

        Edge.of(Edge.TERMS, "PART: NUMBER | VALUE | '(' EXPR ')'.");
        gives("(7)", 7);
        gives("((7))", 7);
        gives("(1 or 0)+(not 0)", 2);
        fault("takes ();", 1, 7);
        fault("takes (1;", 1, 8);
        fault("takes 1);", 1, 7);
        fault("takes (1));", 1, 9);
    }

    private static void arithmetic() {
        Edge.of(Edge.TERMS, "From the left");
        gives("9-3-2", 4);
        gives("9-3+2", 8);
        gives("100/5/2", 10);
        gives("100/5*2", 40);
        gives("7*3/2", 10);

        Edge.of(Edge.TERMS, "ints that wrap");
        // 2 to the 31st is the least int; one less than it is the greatest.
        gives("8192*8192*32<0", 1);
        gives("8192*8192*32-1=0-(8192*8192*32+1)", 1);
        gives("0<8192*8192*32-1", 1);
        gives("8192*8192*64", 0);
        gives("8192*8192*64+7", 7);
        // 9999 to the third power is 999700029999, MOD 2 to the 32nd it is -1027349969.
        gives("9999*9999*9999+1027*1000*1000+349*1000+969+7", 7);
        gives("0-8192*8192*32=8192*8192*32", 1);
        gives("8192*8192*32/(0-1)=8192*8192*32", 1);

        Edge.of(Edge.TERMS, "/ cut down to 0");
        gives("7/2", 3);
        gives("1/2", 0);
        gives("10+(0-7)/2", 7);
        gives("10+7/(0-2)", 7);
        gives("10+(0-7)/(0-2)", 13);
        gives("10+(0-1)/2", 10);

        Edge.of(Edge.TERMS, "by 0 gives 0");
        gives("5/0", 0);
        gives("3+5/0", 3);
        gives("0/0", 0);
        gives("3+(0-5)/(hunger-5)", 3);
        gives("left/level", 0);
    }

    private static void holding() {
        Edge.of(Edge.TERMS, "tests, not, and, or are 1 or 0 (what isn't 0 holds)");
        gives("1<2", 1);
        gives("2<2", 0);
        gives("3<2", 0);
        gives("2=2", 1);
        gives("2=3", 0);
        gives("(0-3)<(0-2)", 1);
        gives("not 0", 1);
        gives("not 7", 0);
        gives("not (0-7)", 0);
        gives("5 and 6", 1);
        gives("(0-5) and 2", 1);
        gives("2 and 1", 1);
        gives("5 and 0", 0);
        gives("0 and 5", 0);
        gives("0 or 7", 1);
        gives("0-7 or 0", 1);
        gives("3 or 4", 1);
        gives("0 or 0", 0);
        for (String no : new String[] {"2<2", "2=3", "not 7", "5 and 0", "0 or 0"}) {
            gives("3+(" + no + ")", 3);
        }
        for (String yes : new String[] {"1<2", "3=3", "not 0", "5 and 6", "7 or 0"}) {
            gives("3+(" + yes + ")", 4);
        }
    }

    private static void values() {
        Edge.of(Edge.TERMS, "'level', 'hunger', 'left' (of FOOD, as it comes), 'kind', 'above' (how many TABLES are above it),"
            + " 'weight'");
        gives("level", 0);
        gives("above", 0);
        gives("hunger", 5);
        gives("kind", 3);
        gives("weight", 7);
        gives("left", 999);
        TableTower x = Edge.tower("food 900;pine 8 1 0 6;folding 9 1 0 7;oak 2 1 0 3;takes 100*level+10*above+kind;");
        Edge.due("CRUMBS", 900 - 20 - 112 - 201, x.supper());
        Edge.due("the lowest", 20, x.table(0, 5));
        Edge.due("the next", 112, x.table(1, 5));
        Edge.due("the highest", 201, x.table(2, 5));
        x.take(1);
        x.change(0, 1);
        x.supper();
        Edge.due("what is by is not above", 11, x.table(2, 5));
        Edge.due("a LEVEL, no TABLE", 100, x.table(0, 5));
        TableTower y = Edge.tower("food 80;oak 1 1 0 5;oak 1 1 0 6;oak 1 1 0 6;takes left/2;");
        Edge.due("what is left comes", 10, y.supper());
        Edge.due("half of 40", 20, y.table(1, 5));
    }

    private static void placesOfFaults() {
        Edge.of(Edge.TERMS, "FAULTS, the first along the text");
        fault("oak 0 1000 x", 2, 4);
        fault("limit 1;limit 99 x", 4, 8);
        fault("takes x y 12345", 3, 6);
        fault("takes 1 x 12345", 1, 8);
        fault("x limit 50;", 1, 0);
        fault(TEN + "oak 0 x", 2, 120);

        Edge.of(Edge.TERMS, "at a TOKEN's first byte");
        fault("  \n xyz", 1, 4);
        fault("oak   100 1 1 1;", 2, 6);
        fault("takes 1+  levels;", 3, 10);
        fault("food 1;\n\nfood 1;", 4, 9);

        Edge.of(Edge.TERMS, "of one TOKEN the least");
        // A NUMBER of 5 digits that can't stand there; a word within 6 others that is no VALUE; a second one that can't.
        fault("12345;", 1, 0);
        fault("takes 1 12345;", 1, 8);
        fault("takes ((((((x", 2, 12);
        fault("takes ((((((12345", 2, 12);
        fault("takes 1;takes 1 takes 1;", 4, 8);
        fault("limit 1 limit 1;", 1, 8);
    }

    private static void faultOne() {
        Edge.of(Edge.TERMS, "1 a TOKEN that can't stand there, or is none");
        fault("level 1;", 1, 0);
        fault("1;", 1, 0);
        fault("oak;", 1, 3);
        fault("oak x 1 1 1;", 1, 4);
        fault("oak (1) 1 1 1;", 1, 4);
        fault("takes 1 2;", 1, 8);
        fault("takes 1 level;", 1, 8);
        fault("takes 1 not 1;", 1, 8);
        fault("takes 1 (1);", 1, 8);
        fault("#", 1, 0);
        fault("oak # 1 1 1;", 1, 4);
        fault("takes #;", 1, 6);
        fault("takes 1#;", 1, 7);
        fault("" + (char) 128, 1, 0);

        Edge.of(Edge.TERMS, "(the text's length where it ends too soon)");
        fault("oak", 1, 3);
        fault("oak \n ", 1, 6);
        fault("oak 1", 1, 5);
        fault("oak 1 1", 1, 7);
        fault("oak 1 1 -", 1, 9);
        fault("oak 1 1 -1", 1, 10);
        fault("oak 1 1 1 1", 1, 11);
        fault("limit", 1, 5);
        fault("food 1", 1, 6);
        fault("takes", 1, 5);
        fault("takes 1", 1, 7);
        fault("takes (", 1, 7);
        fault("takes (1 ", 1, 9);
        fault("takes 1+", 1, 8);
        fault("takes 1<", 1, 8);
        fault("takes not", 1, 9);
        fault("takes 1 and  ", 1, 13);
        fault("takes ((((((", 1, 12);
        String[] texts = {"limit 1;", "limit 100;", "limitx;", "limit  1;", "takes 1+1;"};
        int[] bytes = {7, 7, 5, 6, 8};
        for (int i = 0; i < texts.length; i++) {
            TableTower x = new TableTower();
            Check.feed(x, texts[i]);
            Edge.due(bytes[i] + " bytes of " + texts[i], 1, x.town(bytes[i]));
            Edge.due("behind these nothing is read", bytes[i], x.fault());
        }
    }

    private static void faultTwo() {
        Edge.of(Edge.TERMS, "a NUMBER of 5 digits or more");
        fault("oak 1 00009 0 1;", 2, 6);
        fault("oak 1 9 00000 1;", 2, 8);
        fault("oak 1 9 -00001 1;", 2, 9);
        fault("oak 1 9 0 00001;", 2, 10);
        fault("limit 00001;", 2, 6);
        fault("food 00001;", 2, 5);
        fault("takes 00001;", 2, 6);
        fault("takes 1+00001;", 2, 8);
        fault("takes 4294967297;", 2, 6);
        fault("food " + "9".repeat(500) + ";", 2, 5);
        fault("food 4294967297;", 2, 5);

        Edge.of(Edge.TERMS, "or (not in an EXPR) not as told");
        fault("oak 0 9 0 1;", 2, 4);
        fault("oak 9999 9 0 1;", 2, 4);
        fault("limit 9999;", 2, 6);
        good("takes 9999;");
        good("takes 0;");

        Edge.of(Edge.TERMS, "the first TOKEN of the 11th TABLE");
        good(TEN);
        good(TEN + "limit 3;food 3;takes 3;");
        for (String kind : new String[] {"pine", "oak", "folding", "castor"}) {
            fault(TEN + " " + kind, 2, 121);
        }
        fault(TEN + "limit 3;oak 1 9 0 1;", 2, 128);
        fault(TEN + "oaks", 1, 120);
    }

    private static void faultTwoWithin() {
        Edge.of(Edge.TERMS, "of an EXPR within 6 others (a NUMBER, any word, a parenthesis)");
        good("takes (((((1)))));");
        good("takes (((((not level)))));");
        good("takes (((((1)))))+(((((1)))));");
        fault("takes ((((((1))))));", 2, 12);
        fault("takes (((((( 1", 2, 13);
        fault("takes ((((((level", 2, 12);
        fault("takes ((((((not", 2, 12);
        fault("takes ((((((or", 2, 12);
        fault("takes ((((((oak", 2, 12);
        fault("takes (((((((", 2, 12);
        fault("takes (((((()", 1, 12);
        fault("takes ((((((-", 1, 12);
        fault("takes ((((((;", 1, 12);
        fault("takes 1+(1*(1<(not (1 and (1 or (1", 2, 33);

        Edge.of(Edge.TERMS, "the seventh 'not' side by side");
        good("takes not not not not not not 1;");
        gives("not not not not not not 7", 1);
        fault("takes not not not not not not not 1;", 2, 30);
        fault("takes not not not not not not not", 2, 30);
        fault("takes 1 and not not not not not not\nnot", 2, 36);
        good("takes not not not not not not(not not not not not not 1);");
        good("takes not not not not not not 1 or not not not not not not 1;");
        fault("takes not not not not not not x;", 3, 30);
    }

    private static void faultThree() {
        Edge.of(Edge.TERMS, "3 any word where a PART must stand that is no VALUE");
        for (String word : new String[] {"x", "a", "z", "oak", "limit", "food", "takes", "and", "or", "levels", "leve"}) {
            fault("takes " + word + ";", 3, 6);
            fault("takes (" + word, 3, 7);
            fault("takes 1*" + word, 3, 8);
            fault("takes not " + word, 3, 10);
        }
        for (String sign : new String[] {"+", "-", "*", "/", "<", "="}) {
            fault("takes 1" + sign + "not 1;", 3, 8);
        }
        for (String value : new String[] {"level", "hunger", "left", "kind", "above", "weight"}) {
            good("takes " + value + ";");
        }
        fault("takes 1 x;", 1, 8);
    }

    private static void faultFour() {
        Edge.of(Edge.TERMS, "4 a second 'limit', 'food', 'takes'");
        fault("limit 1;limit 1;", 4, 8);
        fault("food 1;food 1;", 4, 7);
        fault("takes 1;takes 1;", 4, 8);
        fault("limit 0;food 1;limit", 4, 15);
        fault("food 0;food", 4, 7);
        fault("takes 0;" + ONE + "takes", 4, 20);
        good("limit 1;food 1;takes 1;");
        TableTower x = Edge.tower("limit 1;food 1;takes 1;");
        Edge.due("another TEXT begins anew", 0, Check.tell(x, "limit 2;food 2;takes 2;"));
        Check.tell(x, "limit 2;x");
        Edge.due("behind a FAULT, too", 0, Check.tell(x, "limit 3;"));
    }
}
