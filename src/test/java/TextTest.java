/** Promises 11 to 21: texts, faults, layers, claims, printing, holds; and parts 2 and 3 of the document. */
final class TextTest {
    private static final String X = "var x;";

    public static void main(String[] args) {
        read();
        badBytes();
        wrongTokens();
        names();
        numbers();
        tooMany();
        tokensTooMany();
        openTooMany();
        cases();
        tooGreat();
        tooManyAtoms();
        faultOrder();
        on();
        layers();
        find();
        about();
        lines();
        divisors();
        caseAtoms();
        print();
        holds();
        Checks.finish();
    }

    private static void read() {
        IntegerHouse x = Checks.house("var x y;claim a=x<1;\nclaim bB9=a and 2 divides y -> a or not(false);");
        Checks.due("count(0)", x.count(0), 2);
        Checks.due("count(1)", x.count(1), 2);
        Checks.due("count(2)", x.count(2), 2);
        Checks.due("count(4)", x.count(4), 0);
        Checks.due("read", Checks.read(x, "  \n "), 0);
        Checks.due("read", Checks.read(x, "var z; var w; claim c = z >= w;"), 1);
        Checks.due("count(0)", x.count(0), 4);
        Checks.due("fault", x.fault(), 0);
        Checks.due("read", Checks.read(x, "claim d = bB9 == bB9;"), 1);
        Checks.due("count(7)", x.count(7), 4);
    }

    private static void badBytes() {
        Checks.dueFault("#", 1, 0);
        Checks.dueFault("var x; !", 1, 7);
        Checks.dueFault("var x;\tclaim", 1, 6);
        Checks.dueFault("var abcdefghi;", 1, 4);
        Checks.dueFault("var abcdefg8 a23456789;", 1, 13);
        Checks.dueFault(X + "claim a = x < 1234567;", 1, 20);
        Checks.dueFault(X + "claim a = x < 12a;", 1, 20);
        Checks.dueFault(X + "claim a = x < 1 ! 2;", 1, 22);
        Checks.dueFault("var x y.z;", 1, 7);
        Checks.dueFault("var x _;", 1, 6);
        Checks.due("read", Checks.read(new IntegerHouse(), "var abcdefg8; claim A1 = abcdefg8 + 999999 < 999999;"), 1);
        Checks.dueFault(Checks.repeat(";", 2000), 2, 0);
        Checks.dueFault(Checks.repeat("#", 2000), 1, 0);
        Checks.dueFault("var x;" + Checks.repeat("claim a ", 240), 2, 14);
        // a wrong token before it is told first
        Checks.dueFault("var ; !", 2, 4);
    }

    private static void wrongTokens() {
        Checks.dueFault("var", 2, 3);
        Checks.dueFault("var  \n", 2, 6);
        Checks.dueFault("var x", 2, 5);
        Checks.dueFault("x", 2, 0);
        Checks.dueFault(";", 2, 0);
        Checks.dueFault("var x;;", 2, 6);
        Checks.dueFault("var x, y;", 2, 5);
        Checks.dueFault("var and;", 2, 4);
        Checks.dueFault("var if;", 2, 4);
        Checks.dueFault("var divides;", 2, 4);
        Checks.dueFault("var 5;", 2, 4);
        Checks.dueFault("claim", 2, 5);
        Checks.dueFault("claim a", 2, 7);
        Checks.dueFault("claim a == true;", 2, 8);
        Checks.dueFault("claim a = ;", 2, 10);
        Checks.dueFault("claim a = true", 2, 14);
        Checks.dueFault("claim min = true;", 2, 6);
        Checks.dueFault(X + "claim a = x;", 2, 17);
        Checks.dueFault(X + "claim a = x < 1 < 2;", 2, 22);
        Checks.dueFault(X + "claim a = x == 1;", 2, 18);
        Checks.dueFault(X + "claim a = x -> x < 1;", 2, 18);
        Checks.dueFault(X + "claim a = x->x < 1;", 2, 17);
        Checks.dueFault(X + "claim a = (x) < 1;", 2, 18);
        Checks.dueFault(X + "claim a = x < 1 -> x < 2 -> x < 3;", 2, 31);
        Checks.dueFault(X + "claim a = x < 1 == x < 2 -> x < 3;", 2, 31);
        Checks.dueFault(X + "claim a = x < 1) ;", 2, 21);
        Checks.dueFault(X + "claim a = (x < 1;", 2, 22);
        Checks.dueFault(X + "claim a = [x < 1;", 2, 19);
        Checks.dueFault(X + "claim a = x + - 1 < 1;", 2, 20);
        Checks.dueFault(X + "claim a = 2 * 3 < x;", 2, 20);
        Checks.dueFault(X + "claim a = x * 3 < x;", 2, 18);
        Checks.dueFault(X + "claim a = x < - - x;", 2, 22);
        Checks.dueFault(X + "claim a = abs x < 1;", 2, 20);
        Checks.dueFault(X + "claim a = abs[x, 1] < 1;", 2, 21);
        Checks.dueFault(X + "claim a = min[x] < 1;", 2, 21);
        Checks.dueFault(X + "claim a = mod[x, x] < 1;", 2, 23);
        Checks.dueFault(X + "claim a = mod[x, 2 + 1] < 1;", 2, 25);
        Checks.dueFault(X + "claim a = x + 2 divides x;", 2, 22);
        Checks.dueFault(X + "claim a = - 2 divides x;", 2, 20);
        Checks.dueFault(X + "claim a = x divides x;", 2, 18);
        Checks.dueFault(X + "claim a = not;", 2, 19);
        Checks.dueFault(X + "claim a = x < 1 and;", 2, 25);
        Checks.dueFault(X + "claim a = x < 1 if x < 1;", 2, 22);
        Checks.dueFault(X + "claim a = x < 1; claim b = x < a;", 2, 37);
        Checks.dueFault(X + "claim a = x < 1; claim b = a < x;", 2, 35);
        Checks.dueFault(X + "claim a = x < 1 x < 2;", 2, 22);
        Checks.dueFault(X + "claim a = x > = 1;", 2, 20);
        Checks.dueFault(X + "claim a = x < = 1;", 2, 20);
        Checks.due("signs are read as long as can be", Checks.read(Checks.house(X), "claim a = x<-x->x>=-1==x!=-1;"), -1021);
        Checks.due("a minus behind <", Checks.read(Checks.house(X), "claim a=x<-x;"), 1);
    }

    private static void names() {
        Checks.dueFault("var x x;", 3, 6);
        Checks.dueFault("var x; claim x = true;", 3, 13);
        Checks.dueFault("claim a = true; claim a = true;", 3, 22);
        Checks.dueFault("claim a = true; var a;", 3, 20);
        Checks.dueFault("claim a = a;", 3, 10);
        Checks.dueFault("claim a = b; claim b = true;", 3, 10);
        Checks.dueFault(X + "claim a = y < 1;", 3, 16);
        Checks.dueFault(X + "claim a = x < X;", 3, 20);
        Checks.dueFault(X + "claim a = [a] < 1;", 3, 17);
        Checks.dueFault("claim a = x < 1; var x;", 3, 10);
        IntegerHouse x = Checks.house("var x; claim a = x < 1;");
        Checks.dueFault(x, "var y x;", 3, 6);
        Checks.due("count(0)", x.count(0), 1);
        Checks.dueFault(x, "claim b = x < 2; claim a = true;", 3, 23);
        Checks.due("count(1)", x.count(1), 1);
        Checks.due("read", Checks.read(x, "var y of; claim b = of < y;"), 1);
    }

    private static void numbers() {
        Checks.dueFault(X + "claim a = 1 divides x;", 4, 16);
        Checks.dueFault(X + "claim a = 13 divides x;", 4, 16);
        Checks.dueFault(X + "claim a = 0 divides y;", 4, 16);
        Checks.dueFault(X + "claim a = mod[x, 1] < 1;", 4, 23);
        Checks.dueFault(X + "claim a = div[x, 13] < 1;", 4, 23);
        Checks.dueFault(X + "claim a = div[x, 0] < 1 !;", 4, 23);
        Checks.due("read", Checks.read(Checks.house(X), "claim a = 012 divides x and mod[x, 2] = 0;"), 1);
    }

    private static void tooMany() {
        Checks.dueFault("var a b c d e;", 5, 12);
        Checks.dueFault("var a b c d a;", 3, 12);
        IntegerHouse x = Checks.house("var a b c d;");
        Checks.dueFault(x, "var e;", 5, 4);
        StringBuilder text = new StringBuilder();
        for (int k = 0; k < 24; k++) {
            text.append("claim c").append(k).append("=true;");
        }
        Checks.due("read", Checks.read(x, text.toString()), 24);
        Checks.dueFault(x, "claim more = true;", 5, 6);
        Checks.dueFault(x, "claim c1 = true;", 3, 6);
        Checks.dueFault(x, "claim more", 5, 6);
        Checks.due("count(1)", x.count(1), 24);
        Checks.due("on", x.on(23, false), 1);
    }

    /** 120 tokens: 118 and x < 1, or the like. */
    private static void tokensTooMany() {
        String thirty = Checks.repeat("x+", 58);
        // 116 tokens, then x < 1
        IntegerHouse x = Checks.house(X);
        Checks.due("119 tokens", Checks.read(x, "claim a = " + thirty + "x<1;"), -1006);
        Checks.due("too great is told, so it had not too many", x.fault(), 4);
        String flat = Checks.repeat("x-x+", 29);
        Checks.due("120 tokens", Checks.read(x, "claim a = -" + flat + "x<1;"), 1);
        Checks.due("about(0, 5)", x.about(0, 5), 120);
        Checks.dueFault(X + "claim a = -1+" + flat + "x<1;", 5, 6 + 13 + 116 + 1);
        Checks.dueFault(X + "claim a = --" + flat + "x<1;", 2, 17);
        // the token that is one too many cannot come there: 2; is not known: 3; is a bad one: 1
        String full = "claim a = -" + flat + "x<1";
        Checks.dueFault(X + full + " true;", 2, 6 + full.length() + 1);
        Checks.dueFault(X + full + " and true;", 5, 6 + full.length() + 1);
        Checks.dueFault(X + full + "+y<1;", 5, 6 + full.length());
        Checks.dueFault(X + full + "#;", 1, 6 + full.length());
        String short1 = "claim a = " + flat + "x<1+";
        Checks.dueFault(X + short1 + "y;", 3, 6 + short1.length());
        Checks.dueFault(X + short1 + "1 and true;", 5, 6 + short1.length());
        // a NUMBER that is one too many is 5 whatever it is
        String divs = "claim a = " + Checks.repeat("x-x+", 28) + "x<-mod[-x,";
        Checks.due("tokens", 112 + 2 + 6, 120);
        Checks.dueFault(X + divs + "2];", 5, 6 + divs.length());
        Checks.dueFault(X + divs + "13];", 5, 6 + divs.length());
        Checks.dueFault(X + divs + "];", 2, 6 + divs.length());
        String ors = "claim a = " + Checks.repeat("true or ", 60);
        Checks.dueFault(X + ors + "13 divides x;", 5, 6 + ors.length());
        String nots = "claim a = " + Checks.repeat("true or ", 59) + "not ";
        Checks.dueFault(X + nots + "13 divides x;", 4, 6 + nots.length());
        Checks.dueFault(X + nots + "12 divides x;", 5, 6 + nots.length() + 3);
    }

    private static void openTooMany() {
        String twelve = Checks.repeat("(", 12);
        Checks.due("12 (", Checks.read(Checks.house(X), "claim a = " + twelve + "true" + Checks.repeat(")", 12) + ";"), 1);
        Checks.dueFault("claim a = " + twelve + "(true" + Checks.repeat(")", 13) + ";", 5, 22);
        Checks.dueFault("claim a = " + twelve + "not true" + Checks.repeat(")", 12) + ";", 5, 22);
        Checks.dueFault(X + "claim a = " + twelve + "[x] < 1" + Checks.repeat(")", 12) + ";", 5, 28);
        Checks.dueFault(X + "claim a = " + twelve + "abs[x] < 1" + Checks.repeat(")", 12) + ";", 5, 31);
        String nots = Checks.repeat("not ", 12);
        Checks.due("12 not", Checks.read(Checks.house(X), "claim a = " + nots + "true and " + nots + "false;"), 1);
        Checks.dueFault("claim a = " + nots + "not true;", 5, 58);
        Checks.dueFault("claim a = " + nots + "not", 5, 58);
        String opens = Checks.repeat("[", 12);
        Checks.due("12 [", Checks.read(Checks.house(X), "claim a = " + opens + "x" + Checks.repeat("]", 12) + "<[1];"), 1);
        Checks.dueFault(X + "claim a = [" + opens + "x;", 5, 28);
        Checks.dueFault(X + "claim a = not ([abs[min[" + Checks.repeat("[", 8) + "x;", 5, 37);
    }

    private static void cases() {
        IntegerHouse x = Checks.house("var x y; claim a = true; claim b = x < 1 and 2 divides y or a;"
            + "claim c = abs[x] + abs[y] < min[x, y] or max[x, y] = 1; claim d = mod[x, 12] + 0 * div[y, 5] < 3;"
            + "claim e = abs[abs[abs[abs[abs[abs[x]]]]]] < 1; claim f = 3 divides mod[x, 3] and b and e;");
        int[] cases = {0, 2, 10, 60, 64, 3};
        for (int c = 0; c < cases.length; c++) {
            Checks.due("about(" + c + ", 2)", x.about(c, 2), cases[c]);
        }
        Checks.dueFault(x, "claim g = true; claim h = abs[abs[abs[abs[abs[abs[x]]]]]] < 1 or x < 1;", 5, 22);
        Checks.dueFault(x, "claim g = mod[x, 12] < mod[x, 12];", 5, 6);
        // 5 for cases is told before 4 for sizes
        Checks.dueFault(x, "claim g = mod[100 * x, 12] < mod[100 * x, 12];", 5, 6);
        Checks.dueFault(x, "claim g = 21 * x < 0 and mod[x, 12] < mod[x, 12];", 5, 6);
        Checks.dueFault(x, "claim g = " + Checks.repeat("mod[", 11) + "x" + Checks.repeat(",12]", 11) + "<1;", 5, 6);
    }

    private static void tooGreat() {
        String[] right = {"20 * x <= 99999", "20 * x < 100000", "x > 0 - 100000", "-20 * x >= -99999", "x + 999999 > 999999 - x",
            "50000 * x <= 50000 * x + y", "12 divides 999999 * x + 5", "6 divides div[x, 2]", "div[x, 3] < div[y, 4]",
            "0 < 99999", "1000 * [1000 * y - x] = 1000 * [1000 * y - x]", "div[20 * x, 12] < 1000", "x < 99999"};
        for (String formula : right) {
            Checks.due(formula, Checks.read(Checks.house("var x y;"), "claim a = " + formula + ";"), 1);
        }
        String[] great = {"21 * x <= 0", "x <= 100000", "x <= 99999 + 1", "x > 99999", "x < -99999", "x >= 0 - 100000",
            "999999 * [2 * x] = 999999 * [2 * x]", "2 * [999999 * x] = 0", "[999999 * x + 2 * x] - 999999 * x = 2 * x",
            "[999999 + 2] - 999999 < x", "999999 * x + 2 * x <= 999999 * x + 2 * x", "500001 * x - y < -500000 * x - y",
            "0 < 99999 + 2", "7 divides div[x, 2]", "2 divides div[div[x, 4], 2]", "div[div[x, 4], 4] < 1", "20 * x = 100000",
            "abs[21 * x] < 3", "min[20 * x, -y - x] < 5", "x != 100000", "20 * x < 10 * div[x, 2]", "999999 < 0",
            "12 divides 999999 * x + 1 + 999999 * x"};
        for (String formula : great) {
            Checks.dueFault("var x y; claim a = " + formula + ";", 4, 15);
        }
    }

    private static void tooManyAtoms() {
        StringBuilder many = new StringBuilder();
        for (int k = 0; k < 12; k++) {
            many.append("x = ").append(k).append(" or ");
        }
        IntegerHouse x = Checks.house("var x y;");
        Checks.due("24 atoms", Checks.read(x, "claim a = " + many + "x <= 3;"), 1);
        Checks.due("about(0, 1)", x.about(0, 1), 24);
        Checks.dueFault(x, "claim b = " + many + "x <= 12;", 5, 6);
        Checks.dueFault(x, "claim b = y < 1; claim c = a and b;", 5, 23);
        Checks.due("count(1)", x.count(1), 1);
        Checks.dueFault(x, "claim b = " + many + "x <= 12 or 21 * x < 0;", 4, 6);
        Checks.due("named ones that are like are one", Checks.read(x, "claim b = x >= 2; claim c = a or b;"), 2);
        Checks.due("about(2, 1)", x.about(2, 1), 24);
    }

    /** Grammar first in the whole text; then the first claim that has a fault, at its NAME. */
    private static void faultOrder() {
        Checks.dueFault(X + "claim a = 21 * x < 0; claim b = ;", 2, 38);
        Checks.dueFault(X + "claim a = x < 1; claim b = 21 * x < 0; claim c = mod[x,12] = mod[x,12];", 4, 29);
        IntegerHouse x = Checks.house(X);
        Checks.dueFault(x, "claim a = true; claim b = ", 2, 26);
        Checks.due("fault", x.fault(), 2);
        Checks.due("read", Checks.read(x, "claim a = true;"), 1);
        Checks.due("the latest fault stays", x.fault(), 2);
        Checks.due("count(4) behind a fault", x.count(4), 0);
    }

    private static void on() {
        IntegerHouse x = Checks.house("var x; claim a = x < 1; claim b = x > 1;");
        Checks.due("on(2, true)", x.on(2, true), IntegerHouse.UNKNOWN);
        Checks.due("on(-1, true)", x.on(-1, true), IntegerHouse.UNKNOWN);
        Checks.due("on(0, true)", x.on(0, true), 0);
        Checks.due("count(7)", x.count(7), 2);
        Checks.due("on(0, false)", x.on(0, false), 1);
        Checks.due("about(0, 0)", x.about(0, 0), 0);
        Checks.due("on(0, false)", x.on(0, false), 0);
        Checks.due("count(2)", x.count(2), 1);
        Checks.due("on(0, true)", x.on(0, true), 1);
        Checks.due("count(2)", x.count(2), 2);
        Checks.due("count(7)", x.count(7), 5);
    }

    private static void layers() {
        IntegerHouse x = Checks.house("var x; claim a = x < 1; claim b = x > 1;");
        Checks.due("pop", x.pop(), IntegerHouse.STATE);
        x.on(1, false);
        Checks.due("push", x.push(), 1);
        x.on(0, false);
        x.on(1, true);
        Checks.read(x, "var y; claim c = y < x; claim d = c and a;");
        Checks.due("push", x.push(), 2);
        Checks.due("about(3, 4)", x.about(3, 4), 1);
        x.on(2, false);
        Checks.due("pop", x.pop(), 1);
        Checks.due("about(2, 0)", x.about(2, 0), 1);
        Checks.due("count(1)", x.count(1), 4);
        Checks.due("pop", x.pop(), 0);
        Checks.due("count(0)", x.count(0), 1);
        Checks.due("count(1)", x.count(1), 2);
        Checks.due("about(0, 0)", x.about(0, 0), 1);
        Checks.due("about(1, 0)", x.about(1, 0), 0);
        Checks.due("about(2, 0)", x.about(2, 0), IntegerHouse.UNKNOWN);
        Checks.dueFault(x, "claim c = y < x;", 3, 10);
        Checks.due("names may come again", Checks.read(x, "var y; claim c = y > 5; claim d = y < 5;"), 2);
        Checks.due("atom(2, 0, 1)", x.atom(2, 0, 1), -1);
        for (int k = 1; k <= 8; k++) {
            Checks.due("push", x.push(), k);
        }
        Checks.due("push", x.push(), IntegerHouse.ROOM);
        Checks.due("count(3)", x.count(3), 8);
        Checks.due("pop", x.pop(), 7);
    }

    private static void find(IntegerHouse x, String text, int answer, int kind) {
        Checks.tape(x, text);
        Checks.due("find " + text, x.find(), answer);
        Checks.due("fault", x.fault(), kind);
        Checks.due("count(4)", x.count(4), 0);
    }

    private static void find() {
        IntegerHouse x = Checks.house("var x; claim a = x < 1; claim bb = x > 1; claim of = a;");
        find(x, "a", 0, 0);
        find(x, " \n bb ", 1, 0);
        find(x, "of", 2, 0);
        find(x, "", -1000, 2);
        find(x, "  ", -1002, 2);
        find(x, " x", -1001, 2);
        find(x, "and", -1000, 2);
        find(x, "5", -1000, 2);
        find(x, "c", -1000, 3);
        find(x, "c !", -1000, 3);
        find(x, "a !", -1002, 1);
        find(x, "a a", -1002, 2);
        find(x, "x #", -1000, 2);
        find(x, "abcdefghi", -1000, 1);
        find(x, "a;", -1001, 2);
        Checks.due("find in no text", x.find(), -1000);
    }

    private static void about() {
        IntegerHouse x = Checks.house("var x y; claim a = x + 1 <= 2 * y; claim b = a and true and (x = y);");
        x.push();
        Checks.read(x, "claim c = a and not b; claim d = a and x < y and false; claim e = true; claim f = x != y; claim g = c and a;"
            + "claim h = abs[x] < 1; claim i = 2 divides x; claim j = x < 1 or x < 2; claim k = a == a; claim l = [x] = -[y - 3];"
            + "claim m = x < 1 -> x < 2;");
        int[] plain = {1, 1, 0, 0, 1, 0, 0, 0, 0, 0, 0, 1, 0};
        for (int c = 0; c < plain.length; c++) {
            Checks.due("about(" + c + ", 3)", x.about(c, 3), plain[c]);
            Checks.due("about(" + c + ", 4)", x.about(c, 4), c < 2 ? 0 : 1);
        }
        Checks.due("about(0, 5)", x.about(0, 5), 7);
        Checks.due("about(1, 5)", x.about(1, 5), 9);
        Checks.due("about(1, 1)", x.about(1, 1), 3);
        Checks.due("about(2, 1)", x.about(2, 1), 3);
        Checks.due("about(4, 1)", x.about(4, 1), 0);
        Checks.due("about(0, 6)", x.about(0, 6), -1);
        Checks.due("about(0, -1)", x.about(0, -1), -1);
        Checks.due("about(13, 0)", x.about(13, 0), IntegerHouse.UNKNOWN);
        Checks.due("about(-1, 9)", x.about(-1, 9), IntegerHouse.UNKNOWN);
    }

    private static void dueAtoms(String formula, int[][] atoms) {
        IntegerHouse x = Checks.house("var x y; claim a = " + formula + ";");
        Checks.due("atoms of " + formula, x.about(0, 1), atoms.length);
        for (int k = 0; k < atoms.length; k++) {
            for (int what = 0; what < 4; what++) {
                int want = what < 2 ? atoms[k][what] : what == 2 || what == 3 ? 0 : 0;
                Checks.due(formula + " atom(0, " + k + ", " + what + ")", x.atom(0, k, what), want);
            }
            Checks.due(formula + " atom(0, " + k + ", 4)", x.atom(0, k, 4), atoms[k][2]);
            Checks.due(formula + " atom(0, " + k + ", 5)", x.atom(0, k, 5), atoms[k].length > 3 ? atoms[k][3] : 0);
        }
        Checks.due("atom behind the last one", x.atom(0, atoms.length, 0), IntegerHouse.OUTSIDE);
        Checks.due("atom(0, -1, 0)", x.atom(0, -1, 0), IntegerHouse.OUTSIDE);
        Checks.due("atom(1, 0, 0)", x.atom(1, 0, 0), IntegerHouse.UNKNOWN);
        Checks.due("atom(0, 0, 6)", x.atom(0, 0, 6), IntegerHouse.OUTSIDE);
        Checks.due("atom(0, 0, -1)", x.atom(0, 0, -1), IntegerHouse.OUTSIDE);
    }

    private static void lines() {
        dueAtoms("2 * x - y + 3 <= 10", new int[][] {{2, -1, 7}});
        dueAtoms("2 * x - y + 3 < 10", new int[][] {{2, -1, 6}});
        dueAtoms("2 * x - y + 3 >= 10", new int[][] {{-2, 1, -7}});
        dueAtoms("2 * x - y + 3 > 10", new int[][] {{-2, 1, -8}});
        dueAtoms("2 * x = 4", new int[][] {{2, 0, 4}, {-2, 0, -4}});
        dueAtoms("x != y", new int[][] {{1, -1, 0}, {-1, 1, 0}});
        dueAtoms("x < 1 or x <= 0 or -x >= 0 or x > 0", new int[][] {{1, 0, 0}, {-1, 0, -1}});
        dueAtoms("x - x < 1 or 3 * [x - 2 * [y - 1]] <= 5", new int[][] {{3, -6, -1}});
        dueAtoms("1 < 2 and x = x", new int[][] {});
    }

    private static void divisors() {
        dueAtoms("5 divides 7 * x - y - 3", new int[][] {{2, 4, 2, 5}});
        dueAtoms("2 divides 2 * x + 1 or 12 divides 12 * y", new int[][] {});
        dueAtoms("4 divides 2 * x", new int[][] {{2, 0, 0, 4}});
        dueAtoms("2 divides x or 3 divides x or 2 divides 3 * x", new int[][] {{1, 0, 0, 2}, {1, 0, 0, 3}});
        dueAtoms("3 divides div[x, 2]", new int[][] {{1, 0, 0, 2}, {1, 0, 0, 6}, {1, 0, 1, 2}, {1, 0, 5, 6}});
    }

    private static void caseAtoms() {
        dueAtoms("abs[x - 1] <= 5", new int[][] {{-1, 0, -1}, {1, 0, 6}, {-1, 0, 4}});
        dueAtoms("min[x, y] < 3", new int[][] {{1, -1, 0}, {1, 0, 2}, {0, 1, 2}});
        dueAtoms("max[x, y] < 3", new int[][] {{-1, 1, 0}, {1, 0, 2}, {0, 1, 2}});
        dueAtoms("mod[x, 3] + y = 2", new int[][] {{1, 0, 0, 3}, {0, 1, 2}, {0, -1, -2}, {1, 0, 2, 3}, {0, 1, 1}, {0, -1, -1},
            {1, 0, 1, 3}, {0, 1, 0}, {0, -1, 0}});
        dueAtoms("mod[x, 2] = 1", new int[][] {{1, 0, 0, 2}, {1, 0, 1, 2}});
        dueAtoms("div[x, 2] <= y", new int[][] {{1, 0, 0, 2}, {1, -2, 0}, {1, 0, 1, 2}, {1, -2, 1}});
        dueAtoms("2 * div[x, 2] <= 3", new int[][] {{1, 0, 0, 2}, {2, 0, 6}, {1, 0, 1, 2}, {2, 0, 8}});
        // a condition that is just true or false is gone on with like others
        dueAtoms("abs[3] + x < 1", new int[][] {{1, 0, -3}, {1, 0, 3}});
        // the second one's cases lie in the first one's: abs of y is the first ]
        dueAtoms("abs[min[x, abs[y]]] < 9", new int[][] {{0, -1, 0}, {1, -1, 0}, {-1, 0, 0}, {1, 0, 8}, {-1, 0, 8}, {0, 1, 8}, {0, -1, 8},
            {1, 1, 0}, {0, 1, 0}});
        dueAtoms("div[x, 2] + div[y, 3] < 0", new int[][] {{1, 0, 0, 2}, {0, 1, 0, 3}, {3, 2, -1}, {0, 1, 2, 3}, {3, 2, 1}, {0, 1, 1, 3},
            {3, 2, 3}, {1, 0, 1, 2}, {3, 2, 2}, {3, 2, 4}, {3, 2, 6}});
        IntegerHouse x = Checks.house("var x; claim a = x < 1; claim b = x > 5 and a and x < 3;");
        Checks.due("atom(1, 0, 4)", x.atom(1, 0, 4), -6);
        Checks.due("atom(1, 1, 4)", x.atom(1, 1, 4), 0);
        Checks.due("atom(1, 2, 4)", x.atom(1, 2, 4), 2);
    }

    private static void duePrint(String formula, String want) {
        IntegerHouse x = Checks.house("var x y; claim p = x < 1; claim q = y < 1; claim a = " + formula + ";");
        Checks.due("print of " + formula, Checks.printed(x, 2), want);
        Checks.due("printed behind it", x.printed(want.length()), -1);
        Checks.due("printed before it", x.printed(-1), -1);
    }

    private static void print() {
        duePrint("x<-007*[y+abs[x]]-00", "x < - 007 * [ y + abs [ x ] ] - 00");
        duePrint("(p)", "p");
        duePrint("((p and q))", "p and q");
        duePrint("(p and q) and p", "p and q and p");
        duePrint("p and (q and (p and q))", "p and q and p and q");
        duePrint("(p or q) or (p or q)", "p or q or p or q");
        duePrint("(p and q) or p", "p and q or p");
        duePrint("p and (q or p)", "p and ( q or p )");
        duePrint("((p or q)) and ((p and q))", "( p or q ) and p and q");
        duePrint("(p or q) -> (p and q)", "p or q -> p and q");
        duePrint("(p -> q) -> p", "( p -> q ) -> p");
        duePrint("p == ((q == p))", "p == ( q == p )");
        duePrint("(p -> q)", "p -> q");
        duePrint("(p -> q) or p", "( p -> q ) or p");
        duePrint("(p -> q) and p", "( p -> q ) and p");
        duePrint("not (p)", "not p");
        duePrint("not (not (x < 1))", "not not x < 1");
        duePrint("not (p and q)", "not ( p and q )");
        duePrint("not ((p or q))", "not ( p or q )");
        duePrint("(not p) and q", "not p and q");
        duePrint("(2 divides x) and (x != y)", "2 divides x and x != y");
        duePrint("not (p and (q and p)) or (true or false)", "not ( p and q and p ) or true or false");
        duePrint("((p -> q) and (q -> p)) == (p == q)", "( p -> q ) and ( q -> p ) == ( p == q )");
        duePrint("min[x,y]=max[x,mod[y,2]]", "min [ x , y ] = max [ x , mod [ y , 2 ] ]");
        IntegerHouse x = Checks.house("var longname; claim otherone = longname >= 3; claim c = otherone;");
        Checks.due("print", Checks.printed(x, 0), "longname >= 3");
        Checks.due("print(2)", x.print(2), IntegerHouse.UNKNOWN);
        Checks.due("print(-1)", x.print(-1), IntegerHouse.UNKNOWN);
        Checks.due("what was printed stays", x.printed(0), 'l');
        Checks.due("print", Checks.printed(x, 1), "otherone");
    }

    private static void dueHolds(String formula, long x, long y, boolean want) {
        IntegerHouse house = Checks.house("var x y; claim n = x < y; claim a = " + formula + ";");
        Checks.due(formula + " holds(" + x + ", " + y + ")", house.holds(1, x, y, Long.MAX_VALUE, Long.MIN_VALUE), want ? 1 : 0);
    }

    private static void holds() {
        for (int x = -7; x <= 7; x++) {
            for (int y = -4; y <= 4; y++) {
                dueHolds("div[x, 3] = y", x, y, Math.floorDiv(x, 3) == y);
            }
            int v = x;
            dueHolds("mod[x, 5] = 2", v, 0, Math.floorMod(v, 5) == 2);
            dueHolds("abs[x] > 3", v, 0, Math.abs(v) > 3);
            dueHolds("min[x, 2] < y and max[x, -2] >= 1", v, 1, Math.min(v, 2) < 1 && Math.max(v, -2) >= 1);
            dueHolds("4 divides x - 3", v, 0, Math.floorMod(v - 3, 4) == 0);
            dueHolds("x < 1 -> x < -2", v, 0, v >= 1 || v < -2);
            dueHolds("x < 1 == x < -2", v, 0, v < 1 == v < -2);
            dueHolds("n == not x = y and true or false", v, 1, v < 1 == (v != 1));
            dueHolds("div[mod[x, 12] - 5, 4] = -1", v, 0, Math.floorDiv(Math.floorMod(v, 12) - 5, 4) == -1);
        }
        long far = 1000000000000L;
        dueHolds("20 * x + 20 * y > 99998 and 12 divides x - y", far, far, true);
        dueHolds("x - y > 99998", far, -far, true);
        dueHolds("7 divides x + 6", -far, far, Math.floorMod(-far + 6, 7L) == 0);
        IntegerHouse house = Checks.house("var x y; claim a = x = x;");
        Checks.due("holds", house.holds(0, far + 1, 0, 0, 0), IntegerHouse.OUTSIDE);
        Checks.due("holds", house.holds(0, 0, -far - 1, 0, 0), IntegerHouse.OUTSIDE);
        Checks.due("holds", house.holds(0, 0, Long.MIN_VALUE, 0, 0), IntegerHouse.OUTSIDE);
        Checks.due("holds", house.holds(0, far, -far, far + 1, Long.MIN_VALUE), 1);
        Checks.due("holds", house.holds(1, far + 1, 0, 0, 0), IntegerHouse.UNKNOWN);
    }
}
