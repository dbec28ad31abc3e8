/** The language of the TEXT: FAULTS with their places, and what a rule gives. */
public final class FaultsTest {
    public static void main(String[] args) {
        goodTexts();
        wrongTokens();
        tooSoon();
        numbersTooMuch();
        elevenTables();
        withinOthers();
        notsSideBySide();
        noValues();
        secondOnes();
        theFirstAlongTheText();
        arithmetic();
        tests();
        values();
        keptWithinWhatIsLeft();
        Check.end();
    }

    private static void fault(String text, int which, int place) {
        TableTower x = new TableTower();
        Check.due("town of '" + text + "'", which, Check.tell(x, text));
        Check.due("fault of '" + text + "'", place, x.fault());
        Check.due("STATUS after '" + text + "'", which == 0 ? 0 : 1, x.count(12));
    }

    private static void good(String text) {
        fault(text, 0, -1);
    }

    private static void goodTexts() {
        good("");
        good("   \n ");
        good("oak 1 0 0 0;");
        good("oak1 0 0 0;");
        good("oak\n1\n0\n-\n9\n99\n;");
        good("pine 99 999 9 99;folding 1 1-1 1;castor 0001 0999 0009 0099;");
        good("oak 1 1 -0 1;");
        good("limit 0;food 0;");
        good("limit 40;food 999;");
        good("takes 9999;limit 0040;");
        good("takes 1<2 and 3=4 or not 5;");
        good("takes(1);");
        good("takes 1and 2or 3;");
        good("takes not(1<2)<3;");
    }

    private static void wrongTokens() {
        fault("x", 1, 0);
        fault(";", 1, 0);
        fault("  ;", 1, 2);
        fault("5;", 1, 0);
        fault("Oak 1 1 1 1;", 1, 0);
        fault("oaks 1 1 1 1;", 1, 0);
        fault("level 3;", 1, 0);
        fault("\t", 1, 0);
        fault("\r", 1, 0);
        fault("" + (char) 0, 1, 0);
        fault("" + (char) 233, 1, 0);
        fault("" + (char) 255, 1, 0);
        fault("oak 1 1 1 1;!", 1, 12);
        fault("oak -1 1 1 1;", 1, 4);
        fault("oak 1 -1 1 1;", 1, 6);
        fault("oak 1 1 --1 1;", 1, 9);
        fault("oak 1 1 +1 1;", 1, 8);
        fault("oak 1 1 1 -1;", 1, 10);
        fault("oak 1 1 1 1 1;", 1, 12);
        fault("oak 1 1 1;", 1, 9);
        fault("oak 1 x 1 1;", 1, 6);
        fault("limit;", 1, 5);
        fault("limit -1;", 1, 6);
        fault("limit 3 4;", 1, 8);
        fault("limit (3);", 1, 6);
        fault("food x;", 1, 5);
        fault("takes ;", 1, 6);
        fault("takes );", 1, 6);
        fault("takes -1;", 1, 6);
        fault("takes 1 2;", 1, 8);
        fault("takes 1 12345;", 1, 8);
        fault("takes 1 x;", 1, 8);
        fault("takes 1 level;", 1, 8);
        fault("takes 1 not 1;", 1, 8);
        fault("takes 1 (2);", 1, 8);
        fault("takes 1<2<3;", 1, 9);
        fault("takes 1=2<3;", 1, 9);
        fault("takes not 1=2=3;", 1, 13);
        fault("takes 1+;", 1, 8);
        fault("takes 1+-2;", 1, 8);
        fault("takes 1*/2;", 1, 8);
        fault("takes (1;", 1, 8);
        fault("takes 1);", 1, 7);
        fault("takes ();", 1, 7);
        fault("takes 1 or ;", 1, 11);
        fault("takes 1 & 2;", 1, 8);
        fault("takes 1 = = 2;", 1, 10);
    }

    private static void tooSoon() {
        fault("oak", 1, 3);
        fault("oak  ", 1, 5);
        fault("oak 1 1 1", 1, 9);
        fault("oak 1 1 -", 1, 9);
        fault("oak 1 1 1 1", 1, 11);
        fault("oak 1 1 1 1 \n", 1, 13);
        fault("limit", 1, 5);
        fault("limit 3", 1, 7);
        fault("takes", 1, 5);
        fault("takes 1", 1, 7);
        fault("takes (1 ", 1, 9);
        fault("takes not", 1, 9);
        fault("takes 1 or", 1, 10);
        fault("takes ((((((", 1, 12);
    }

    private static void numbersTooMuch() {
        fault("oak 0 1 1 1;", 2, 4);
        fault("oak 100 1 1 1;", 2, 4);
        fault("oak 1 1000 1 1;", 2, 6);
        fault("oak 1 1 10 1;", 2, 8);
        fault("oak 1 1 -10 1;", 2, 9);
        fault("oak 1 1 1 100;", 2, 10);
        fault("oak 00001 1 1 1;", 2, 4);
        fault("oak 99999999999999999999 1 1 1;", 2, 4);
        fault("oak 1 1 1 00000;", 2, 10);
        fault("limit 41;", 2, 6);
        fault("limit 00001;", 2, 6);
        fault("food 1000;", 2, 5);
        fault("takes 10000;", 2, 6);
        fault("takes 00000;", 2, 6);
        fault("takes 1+00001;", 2, 8);
        fault("takes 4294967297;", 2, 6);
    }

    private static void elevenTables() {
        String ten = "";
        for (int i = 0; i < 10; i++) {
            ten += "oak 1 1 0 1;";
        }
        good(ten);
        good(ten + "limit 3;");
        fault(ten + "oak", 2, 120);
        fault(ten + "\n castor 0", 2, 122);
        fault(ten + "x", 1, 120);
    }

    private static void withinOthers() {
        good("takes (((((1)))));");
        good("takes (((((1))))) + (((((not level)))));");
        fault("takes ((((((1))))));", 2, 12);
        fault("takes ((((((level))))));", 2, 12);
        fault("takes (((((( level", 2, 13);
        fault("takes ((((((x))))));", 2, 12);
        fault("takes ((((((or))))));", 2, 12);
        fault("takes ((((((not 1))))));", 2, 12);
        fault("takes (((((((1)))))));", 2, 12);
        fault("takes ((((((12345))))));", 2, 12);
        fault("takes (((((()", 1, 12);
        fault("takes ((((((+", 1, 12);
        fault("takes ((((((;", 1, 12);
        fault("takes ((((((A", 1, 12);
        fault("takes (((((1+(2", 2, 14);
        good("takes ((((1+(2)))));");
    }

    private static void notsSideBySide() {
        good("takes not not not not not not 1;");
        fault("takes not not not not not not not 1;", 2, 30);
        good("takes not not not not not not(not not not not not not 1);");
        good("takes not not not not not not 1 and not not not not not not 1;");
        fault("takes 1 or not not not not not not not", 2, 35);
        fault("takes not not not not not not x;", 3, 30);
        fault("takes notnot 1;", 3, 6);
    }

    private static void noValues() {
        fault("takes x;", 3, 6);
        fault("takes z;", 3, 6);
        fault("takes a;", 3, 6);
        fault("takes `;", 1, 6);
        fault("takes {;", 1, 6);
        fault("takes oak;", 3, 6);
        fault("takes limit;", 3, 6);
        fault("takes and;", 3, 6);
        fault("takes or;", 3, 6);
        fault("takes not and;", 3, 10);
        fault("takes 1+not 1;", 3, 8);
        fault("takes 1<not 1;", 3, 8);
        fault("takes 1*not 1;", 3, 8);
        fault("takes 1 and or;", 3, 12);
        fault("takes levels;", 3, 6);
        fault("takes leve;", 3, 6);
        fault("takes (food);", 3, 7);
    }

    private static void secondOnes() {
        fault("limit 1;limit 2;", 4, 8);
        fault("food 1;food 2;", 4, 7);
        fault("takes 1;takes 2;", 4, 8);
        fault("limit 1;oak 1 1 1 1; limit", 4, 21);
        good("limit 1;food 1;takes 1;");
    }

    private static void theFirstAlongTheText() {
        fault("oak 0 1000 x", 2, 4);
        fault("limit 1;limit 99 x", 4, 8);
        fault("takes x y 12345", 3, 6);
        fault("limit 50; x", 2, 6);
        fault("x limit 50;", 1, 0);
    }

    /** What one TABLE eats at a SUPPER of 999 by a rule. */
    private static void gives(String rule, int want) {
        TableTower x = Check.tower("food 999;castor 7 1 0 5;takes " + rule + ";");
        x.supper();
        Check.due("takes " + rule, want, x.table(0, 5));
    }

    private static void arithmetic() {
        gives("10-3-2", 5);
        gives("100/5/2", 10);
        gives("2+3*4", 14);
        gives("(2+3)*4", 20);
        gives("7/2", 3);
        gives("(0-7)/2+100", 97);
        gives("7/(0-2)+100", 97);
        gives("5/0", 0);
        gives("5/0+3", 3);
        gives("20-2*3*2", 8);
        gives("100/7*7", 98);
        // 9999 to the third power wraps to -1027349969.
        gives("9999*9999*9999/9999/500+400", 195);
        // The least int by -1 is itself.
        gives("(8192*8192*32)/(0-1)=8192*8192*32", 1);
        gives("8192*8192*32<0", 1);
        gives("0123", 123);
    }

    private static void tests() {
        gives("1<2", 1);
        gives("2<2", 0);
        gives("2=2", 1);
        gives("1+1=2", 1);
        gives("5 and 6", 1);
        gives("5 and 0", 0);
        gives("0 or 7", 1);
        gives("0 or 0", 0);
        gives("not 7", 0);
        gives("not 0", 1);
        gives("not not 7", 1);
        gives("not 1<0", 1);
        gives("not 0+1", 0);
        gives("(not 0)+5", 6);
        gives("1 or 0 and 0", 1);
        gives("(1 or 0) and 0", 0);
        gives("0 and 0 or 1", 1);
        gives("3 or 4", 1);
        gives("0-1 and 1", 1);
        gives("(1<2)*50", 50);
        gives("(3)", 3);
        // As many numbers wait as can: five within each of six EXPRs.
        String deep = "7";
        for (int i = 0; i < 6; i++) {
            deep = "0 or 1 and 0<0+1*" + (i == 0 ? deep : "(" + deep + ")");
        }
        gives(deep, 1);
    }

    private static void values() {
        TableTower x = Check.tower("food 999;pine 7 1 0 5;castor 8 1 0 6;takes 100*level+10*above+kind;");
        x.supper();
        Check.due("level 0, above 1, pine", 10, x.table(0, 5));
        Check.due("level 1, above 0, castor", 103, x.table(1, 5));
        gives("hunger", 5);
        gives("weight", 7);
        gives("kind", 3);
        gives("left/2", 499);
        x = Check.tower("food 80;oak 1 1 0 5;oak 1 1 0 6;oak 1 1 0 6;takes left/2;");
        Check.due("crumbs of halves", 10, x.supper());
        Check.due("the second half", 20, x.table(1, 5));
        Check.due("the third half", 10, x.table(2, 5));
    }

    private static void keptWithinWhatIsLeft() {
        gives("0-5", 0);
        gives("9999", 999);
        TableTower x = Check.tower("food 8;oak 1 1 0 5;oak 1 1 0 6;oak 1 1 0 6;");
        Check.due("no rule: crumbs", 0, x.supper());
        Check.due("no rule: the first", 5, x.table(0, 5));
        Check.due("no rule: the second", 3, x.table(1, 5));
        Check.due("no rule: the third", 0, x.table(2, 5));
    }
}
