/** Promises 22 to 35 and 42, 43: models, greatest values, counts, cores, places, own forms, the bound. */
final class DecideTest {
    public static void main(String[] args) {
        decide();
        least();
        follows();
        valueAndHeight();
        extreme();
        extremeFaults();
        many();
        core();
        alike();
        places();
        named();
        hard();
        own();
        bound();
        audit();
        bruteForce();
        Checks.finish();
    }

    private static void dueDecide(String claims, int answer, int height, long... values) {
        IntegerHouse x = Checks.house(claims);
        Checks.due("decide of " + claims, x.decide(), answer);
        Checks.due("height of " + claims, x.height(), height);
        for (int v = 0; v < values.length; v++) {
            Checks.due("value(" + v + ") of " + claims, x.value(v), values[v]);
        }
        Checks.dueThrow("value", IndexOutOfBoundsException.class, () -> x.value(values.length));
        Checks.dueThrow("value", IndexOutOfBoundsException.class, () -> x.value(-1));
    }

    private static void decide() {
        dueDecide("", 1, 0);
        dueDecide("claim a = true;", 1, 0);
        dueDecide("claim a = false;", 0, -1);
        dueDecide("var x;", 1, 0, 0);
        dueDecide("var x; claim a = x > 0 and x < 1;", 0, -1);
        dueDecide("var x y; claim a = 2 * x = 2 * y + 1;", 0, -1);
        dueDecide("var x y; claim a = 3 * x + 5 * y = 7 and x >= 0 and y >= 0;", 0, -1);
        dueDecide("var x; claim a = x > 99998 and 12 divides x - 7;", 1, 17, 114691);
        dueDecide("var x; claim a = 20 * x = 99980;", 1, 13, 4999);
        IntegerHouse x = Checks.house("var x; claim a = x > 3; claim b = x < 2;");
        Checks.due("decide", x.decide(), 0);
        x.on(0, false);
        Checks.due("decide", x.decide(), 1);
        Checks.due("value", x.value(0), 0);
        x.on(0, true);
        x.on(1, false);
        Checks.due("decide", x.decide(), 1);
        Checks.due("value", x.value(0), 4);
    }

    private static void least() {
        // of one height: the least letter of lowest bits
        dueDecide("var x; claim a = x >= 5 and x <= 7;", 1, 3, 6);
        dueDecide("var x; claim a = x = 5 or x = -6 or x = 8;", 1, 3, -6);
        dueDecide("var x; claim a = x = -1 or x = 1;", 1, 0, -1);
        dueDecide("var x y; claim a = x + y = 1;", 1, 1, 1, 0);
        dueDecide("var x y; claim a = x + y = -1;", 1, 0, -1, 0);
        dueDecide("var x y; claim a = x + y = 3;", 1, 2, 3, 0);
        dueDecide("var x y; claim a = x - y = 4;", 1, 2, 0, -4);
        dueDecide("var x y z w; claim a = w = 1 and z = -2 and x = -w and y = 0;", 1, 1, -1, 0, -2, 1);
    }

    private static void dueFollows(IntegerHouse x, String formula, int answer) {
        Checks.tape(x, formula);
        Checks.due("follows of " + formula, x.follows(), answer);
        Checks.due("count(4)", x.count(4), 0);
    }

    private static void follows() {
        IntegerHouse x = Checks.house("var x y; claim a = x > 2; claim b = y >= x; claim c = 2 divides x;");
        dueFollows(x, "y > 2", 1);
        Checks.due("height", x.height(), -1);
        dueFollows(x, "y > 4", 0);
        Checks.due("value(0)", x.value(0), 4);
        Checks.due("value(1)", x.value(1), 4);
        Checks.due("height", x.height(), 3);
        dueFollows(x, "x >= 4", 1);
        Checks.due("what was told stays", x.value(1), 4);
        dueFollows(x, "mod[x, 2] = 0 and not x = 3", 1);
        dueFollows(x, "y = x -> c", 1);
        dueFollows(x, "x > 4", 0);
        Checks.due("value(0)", x.value(0), 4);
        dueFollows(x, "a == b", 1);
        dueFollows(x, "true", 1);
        dueFollows(x, "false", 0);
        dueFollows(x, "y > 4;", -1005);
        Checks.due("fault", x.fault(), 2);
        dueFollows(x, "", -1000);
        dueFollows(x, "  y > z", -1006);
        Checks.due("fault", x.fault(), 3);
        dueFollows(x, "  21 * y > 0", -1002);
        Checks.due("fault", x.fault(), 4);
        dueFollows(x, " mod[x,12]=mod[y,12]", -1001);
        Checks.due("fault", x.fault(), 5);
        Checks.due("what was told stays", x.value(0), 4);
        Checks.due("asked formulas leave nothing", x.count(1), 3);
        dueFollows(x, "13 divides y", -1000);
        Checks.due("fault", x.fault(), 4);
        Checks.due("no act", x.count(7), 1);
        x.on(0, false);
        x.on(1, false);
        x.on(2, false);
        dueFollows(x, "x > y or x <= y", 1);
        dueFollows(x, "x != y", 0);
        Checks.due("value(0)", x.value(0), 0);
    }

    private static void valueAndHeight() {
        IntegerHouse x = Checks.house("var x y; claim a = x = 9;");
        Checks.due("height", x.height(), -1);
        Checks.dueThrow("value", IndexOutOfBoundsException.class, () -> x.value(0));
        x.decide();
        Checks.due("height", x.height(), 4);
        Checks.read(x, "var z;");
        Checks.due("value(1)", x.value(1), 0);
        Checks.dueThrow("value of one that there was not then", IndexOutOfBoundsException.class, () -> x.value(2));
        x.decide();
        Checks.due("value(2)", x.value(2), 0);
        Checks.read(x, "claim b = x = 8;");
        Checks.due("decide", x.decide(), 0);
        Checks.due("value stays", x.value(0), 9);
    }

    private static void dueExtreme(IntegerHouse x, String text, boolean greatest, int answer, long number) {
        Checks.tape(x, text);
        Checks.due("extreme(" + greatest + ") of " + text, x.extreme(greatest), answer);
        Checks.due("number of " + text, x.number(), number);
        Checks.due("count(4)", x.count(4), 0);
    }

    private static void extreme() {
        IntegerHouse x = Checks.house("var x y; claim a = x >= 0 and y >= -3 and 2 * x + 3 * y <= 17;");
        dueExtreme(x, "x", true, 1, 13);
        dueExtreme(x, "x", false, 1, 0);
        dueExtreme(x, "-y + 5", true, 1, 8);
        dueExtreme(x, "5 * x + 7 * y - 100", true, 1, -56);
        dueExtreme(x, "x - y", false, 1, -5);
        dueExtreme(x, "x + y if 3 divides x and x != 12 or false", true, 1, 8);
        dueExtreme(x, "x if y > 100", true, 0, 8);
        dueExtreme(x, "7", true, 1, 7);
        dueExtreme(x, "7 if x = 14", false, 0, 7);
        dueExtreme(x, "x - x + 3 * [y - y] - 2", false, 1, -2);
        x.on(0, false);
        dueExtreme(x, "x", true, 2, -2);
        dueExtreme(x, "x", false, 2, -2);
        dueExtreme(x, "x if x <= 2 * y and y <= 1000", true, 1, 2000);
        dueExtreme(x, "x if x <= 2 * y and y <= 1000", false, 2, 2000);
        dueExtreme(x, "6 * x - 6 * y if x = y + 99999 - 5 + 5", true, 1, 599994);
        dueExtreme(x, "2 * x if 20 * x <= 99999 and 7 divides x", true, 1, 9996);
        dueExtreme(x, "x if x >= 0 and x < 0 - 99998", false, 0, 9996);
        dueExtreme(x, "x if abs[x] < 100 and 11 divides x + 1", true, 1, 98);
        dueExtreme(x, "x if abs[x] < 100 and 11 divides x + 1", false, 1, -89);
        IntegerHouse y = new IntegerHouse();
        dueExtreme(y, "12", true, 1, 12);
        dueExtreme(y, "12 if false", true, 0, 12);
    }

    private static void dueExtremeFault(String text, int kind, int place) {
        IntegerHouse x = Checks.house("var x y; claim a = x < 1;");
        Checks.tape(x, text);
        Checks.due("extreme of " + text, x.extreme(true), -1000 - place);
        Checks.due("fault of " + text, x.fault(), kind);
        Checks.due("count(4)", x.count(4), 0);
        Checks.due("count(1)", x.count(1), 1);
    }

    private static void extremeFaults() {
        dueExtremeFault("", 2, 0);
        dueExtremeFault("abs[x]", 2, 0);
        dueExtremeFault("x + min[x, y]", 2, 4);
        dueExtremeFault("2 * div[x, 2]", 2, 4);
        dueExtremeFault("x if", 2, 4);
        dueExtremeFault("x if x", 2, 6);
        dueExtremeFault("x if x < 1;", 2, 10);
        dueExtremeFault("x x", 2, 2);
        dueExtremeFault("x < 1", 2, 2);
        dueExtremeFault("if x < 1", 2, 0);
        dueExtremeFault("a", 2, 0);
        dueExtremeFault("q", 3, 0);
        dueExtremeFault("x + ?", 1, 4);
        dueExtremeFault(" 13 * x", 4, 1);
        dueExtremeFault(" 7 * x - 6 * y", 4, 1);
        dueExtremeFault(" 2 * [999999 * x] - 999999 * x - 999999 * x", 4, 1);
        dueExtremeFault(" 2 * [999999]", 4, 1);
        // the term's size before what the formula has behind its grammar
        dueExtremeFault(" 13 * x if 21 * x < 1", 4, 1);
        dueExtremeFault(" 12 * x if 21 * x < 1", 4, 11);
        dueExtremeFault(" 13 * x if mod[x,12]=mod[y,12]", 4, 1);
        dueExtremeFault(" x if mod[x,12]=mod[y,12]", 5, 6);
        dueExtremeFault(" 13 * x if x", 2, 12);
        dueExtremeFault(" 13 * x if 13 divides x", 4, 11);
        String flat = Checks.repeat("x-x+", 29);
        dueExtremeFault(flat + "1+1+1", 5, 120);
        Checks.tape(Checks.house("var x;"), "");
        IntegerHouse x = Checks.house("var x; claim a = x < 1;");
        Checks.tape(x, "-" + flat + "x+1 if -" + flat + "x<1");
        Checks.due("120 tokens each", x.extreme(true), 1);
        Checks.due("number", x.number(), 1);
        Checks.tape(x, "-" + flat + "x+1 if -" + flat + "x<1-x");
        Checks.due("121 tokens", x.extreme(true), -1000 - 120 - 4 - 120);
        Checks.due("fault", x.fault(), 5);
    }

    private static void dueMany(String claims, int want) {
        Checks.due("many of " + claims, Checks.house(claims).many(), want);
    }

    private static void many() {
        dueMany("", 1);
        dueMany("claim a = false;", 0);
        dueMany("var x;", -2);
        dueMany("var x; claim a = false;", 0);
        dueMany("var x; claim a = x >= -5 and x <= 20;", 26);
        dueMany("var x; claim a = x >= -5 and x <= 20 and 3 divides x;", 8);
        dueMany("var x; claim a = x >= -5;", -2);
        dueMany("var x; claim a = x = 0;", 1);
        dueMany("var x; claim a = x = -1;", 1);
        dueMany("var x y; claim a = x = 3;", -2);
        dueMany("var x y; claim a = x = y;", -2);
        dueMany("var x y; claim a = abs[x] + abs[y] <= 10;", 221);
        dueMany("var x y; claim a = 2 * x = 2 * y + 1;", 0);
        dueMany("var x y z; claim a = x >= 0 and x < 1000 and y >= 0 and y < 1000 and z >= 0 and z < 999;", 999000000);
        dueMany("var x y z; claim a = x >= 0 and x < 1000 and y >= 0 and y < 1000 and z >= 0 and z < 1000;", 1000000000);
        dueMany("var x y z; claim a = x >= 0 and x < 1000 and y >= 0 and y < 1000 and z >= 0 and z < 2000;", 1000000000);
    }

    private static void core() {
        IntegerHouse x = Checks.house("var x y; claim a = x > 5; claim b = y > 1; claim c = x < 4; claim d = x < 3; claim e = false;");
        Checks.due("core", x.core(), 2);
        Checks.due("inCore(1)", x.inCore(1), 2);
        x.on(0, false);
        Checks.due("told stays", x.inCore(1), 2);
        Checks.due("core", x.core(), 1);
        Checks.due("inCore(0)", x.inCore(0), 4);
        Checks.due("inCore(1)", x.inCore(1), -1);
        x.on(0, true);
        x.on(4, false);
        Checks.due("core", x.core(), 2);
        Checks.due("inCore(0)", x.inCore(0), 0);
        Checks.due("inCore(1)", x.inCore(1), 2);
        Checks.due("inCore(2)", x.inCore(2), -1);
        Checks.due("inCore(-1)", x.inCore(-1), -1);
        x.on(2, false);
        Checks.due("core", x.core(), 2);
        Checks.due("inCore(1)", x.inCore(1), 3);
        x.on(3, false);
        Checks.due("core with a model", x.core(), 0);
        Checks.due("inCore(0)", x.inCore(0), -1);
        IntegerHouse y = Checks.house("var x y z; claim a = x < y; claim b = y < z; claim c = z < x; claim d = x = y;");
        Checks.due("core", y.core(), 3);
        Checks.due("inCore(2)", y.inCore(2), 2);
    }

    private static void alike() {
        IntegerHouse x = Checks.house("var x y; claim a = x > 5; claim b = not x <= 5; claim c = 2 * x > 11 and y = y; claim d = x > 6;"
            + "claim e = abs[x] = x; claim f = x >= 0; claim g = 2 divides x + y; claim h = 2 divides x - y; claim i = false;"
            + "claim j = x < x + 1 and x < y and y < x;");
        Checks.due("alike(0, 1)", x.alike(0, 1), 1);
        Checks.due("alike(1, 2)", x.alike(1, 2), 1);
        Checks.due("alike(2, 3)", x.alike(2, 3), 0);
        Checks.due("alike(4, 5)", x.alike(4, 5), 1);
        Checks.due("alike(6, 7)", x.alike(6, 7), 1);
        Checks.due("alike(6, 6)", x.alike(6, 6), 1);
        Checks.due("alike(8, 9)", x.alike(8, 9), 1);
        Checks.due("alike(5, 8)", x.alike(5, 8), 0);
        Checks.due("alike(0, 10)", x.alike(0, 10), IntegerHouse.UNKNOWN);
        Checks.due("alike(-1, 0)", x.alike(-1, 0), IntegerHouse.UNKNOWN);
    }

    private static void duePlaces(String claims, int want) {
        Checks.due("places of " + claims, Checks.house(claims).places(), want);
    }

    private static void places() {
        duePlaces("", 1);
        duePlaces("var x;", 1);
        duePlaces("var x; claim a = x <= 0;", 2);
        duePlaces("var x; claim a = x <= 3;", 4);
        duePlaces("var x; claim a = 2 divides x;", 3);
        duePlaces("var x; claim a = 4 divides x;", 4);
        duePlaces("var x; claim a = 3 divides x;", 3);
        duePlaces("var x; claim a = 6 divides x;", 5);
        duePlaces("var x; claim a = 5 divides x;", 5);
        // 3000 at most
        duePlaces("var x y; claim a = -9*x + 6*y <= 69 and -4*x + 9*y <= 136 and 3*x <= 0 - 102 and 3 divides x + y + 1"
            + " and -9*x - 2*y <= 182;", 3000);
        duePlaces("var x y; claim a = -9*x + 6*y <= 69 and -4*x + 9*y <= 151 and 3*x <= 0 - 92 and 3 divides x + y + 1"
            + " and -9*x - 2*y <= 177;", IntegerHouse.HARD);
        IntegerHouse x = Checks.house("var x; claim a = x <= 3; claim b = 3 divides x; claim c = b;");
        x.on(0, false);
        Checks.due("places", x.places(), 3);
        x.on(1, false);
        Checks.due("named ones are at work", x.places(), 3);
        x.on(2, false);
        Checks.due("places", x.places(), 1);
    }

    private static void dueHard(IntegerHouse x) {
        Checks.due("decide", x.decide(), IntegerHouse.HARD);
        Checks.due("many", x.many(), IntegerHouse.HARD);
        Checks.due("core", x.core(), IntegerHouse.HARD);
        Checks.due("places", x.places(), IntegerHouse.HARD);
        Checks.tape(x, "x < 1");
        Checks.due("follows", x.follows(), IntegerHouse.HARD);
        Checks.due("count(4)", x.count(4), 0);
        Checks.tape(x, "x");
        Checks.due("extreme", x.extreme(true), IntegerHouse.HARD);
        Checks.due("fault", x.fault(), 0);
    }

    /** Claims that are named, and named by those: they are so just as they are, on or not. */
    private static void named() {
        IntegerHouse x = Checks.house("var x; claim a = x > 3; claim b = x < 9; claim c = 2 divides x; claim d = b and not c;"
            + "claim e = d or c -> a; claim f = e and d == (b or c); claim g = f -> false;");
        for (int c = 0; c < 7; c++) {
            x.on(c, false);
        }
        for (int v = -3; v <= 12; v++) {
            boolean a = v > 3;
            boolean b = v < 9;
            boolean c = v % 2 == 0;
            boolean d = b && !c;
            boolean e = !(d || c) || a;
            boolean f = (e && d) == (b || c);
            boolean[] is = {a, b, c, d, e, f, !f};
            for (int k = 0; k < is.length; k++) {
                Checks.due("holds(" + k + ", " + v + ")", x.holds(k, v, 0, 0, 0), is[k] ? 1 : 0);
            }
        }
        Checks.tape(x, "d == (x < 9 and not 2 divides x)");
        Checks.due("follows", x.follows(), 1);
        Checks.tape(x, "(g == not f) and (d or c)");
        Checks.due("follows", x.follows(), 0);
        Checks.due("value", x.value(0), 9);
        Checks.due("alike", x.alike(5, 6), 0);
        x.on(3, true);
        Checks.due("many", x.many(), -2);
        x.on(0, true);
        Checks.due("5 and 7", x.many(), 2);
        x.on(6, true);
        Checks.due("g speaks against them", x.core(), 3);
        Checks.due("inCore(1)", x.inCore(1), 3);
        Checks.due("inCore(2)", x.inCore(2), 6);
    }

    private static void hard() {
        StringBuilder text = new StringBuilder("var x y;");
        for (int c = 0; c < 3; c++) {
            text.append("claim c").append(c).append(" = true");
            for (int k = 0; k < 12; k++) {
                text.append(" or x <= ").append(12 * c + k);
            }
            text.append(";");
        }
        IntegerHouse x = Checks.house(text + "claim d = y <= 5; claim e = x >= 3; claim f = x >= 3 and c0 and y <= 5;");
        Checks.due("36 atoms", x.places(), IntegerHouse.HARD);
        dueHard(x);
        Checks.due("alike", x.alike(0, 1) != IntegerHouse.HARD ? 1 : 0, 1);
        x.on(2, false);
        Checks.due("26 atoms", x.decide(), 1);
        Checks.due("many", x.many(), -2);
        Checks.tape(x, "x + y <= 0 and x + 2 * y <= 0 and x + 3 * y <= 0 and x + 4 * y <= 0 and x + 5 * y <= 0 and x + 6 * y <= 0");
        Checks.due("32 atoms", x.follows() == IntegerHouse.HARD && x.places() == IntegerHouse.HARD ? 1 : 0, 0);
        Checks.tape(x, "x = -y and x = -2 * y and x = -3 * y and x = 5 * y");
        Checks.due("34 atoms", x.follows(), IntegerHouse.HARD);
        // places: a divisor by 11 and another by 7 and one by 9 of four variables, and lines
        String wide = "var x y z w; claim a = 11 divides x + 2 * y + 3 * z + 5 * w; claim b = 7 divides x - y + z;"
            + " claim c = 9 divides x + w; claim d = 5 divides y - w;";
        IntegerHouse y = Checks.house(wide);
        Checks.due("11 * 7 * 9 * 5 places", y.places(), IntegerHouse.HARD);
        y.decide();
        Checks.dueThrow("nothing was told", IndexOutOfBoundsException.class, () -> y.value(0));
        dueHard(y);
        y.on(3, false);
        Checks.due("places", y.places(), 693);
        Checks.due("alike", y.alike(0, 1), 0);
        Checks.read(y, "claim e = a and b; claim f = c and d and 8 divides y - w;claim g = e and f;");
        Checks.due("alike", y.alike(4, 5), IntegerHouse.HARD);
        Checks.due("own", y.own(6), IntegerHouse.HARD);
        Checks.due("core", y.core(), IntegerHouse.HARD);
        y.on(4, false);
        y.on(5, false);
        y.on(6, false);
        Checks.due("core", y.core(), 0);
    }

    private static void own() {
        IntegerHouse x = Checks.house("var x; claim a = x <= 3; claim b = x <= 3 and x <= 5 and (x < 9 or 3 divides x); claim c = true;"
            + "claim d = 2 divides x; claim e = 3 divides x; claim f = x <= 5 or x > 5;");
        Checks.due("own(0)", x.own(0), 4);
        int[][] halves = {{1, 1}, {2, 2}, {2, 3}, {2, 3}};
        // c: 3, then 1, then 0, and -1
        Checks.due("half(0, 0)", x.half(0, 0), 1);
        Checks.due("half(0, 1)", x.half(0, 1), 1);
        Checks.due("half(1, 0)", x.half(1, 0), halves[1][0]);
        Checks.due("half(1, 1)", x.half(1, 1), halves[1][1]);
        Checks.due("half(2, 0)", x.half(2, 0), halves[2][0]);
        Checks.due("half(2, 1)", x.half(2, 1), halves[2][1]);
        Checks.due("half(3, 0)", x.half(3, 0), 3);
        Checks.due("half(3, 1)", x.half(3, 1), 3);
        Checks.due("takes(0, 0)", x.takes(0, 0), 1);
        Checks.due("takes(3, 0)", x.takes(3, 0), 0);
        Checks.due("takes(3, 1)", x.takes(3, 1), 1);
        Checks.dueThrow("half(4, 0)", IndexOutOfBoundsException.class, () -> x.half(4, 0));
        Checks.dueThrow("half(0, 2)", IndexOutOfBoundsException.class, () -> x.half(0, 2));
        Checks.dueThrow("half(0, -1)", IndexOutOfBoundsException.class, () -> x.half(0, -1));
        Checks.dueThrow("takes(-1, 0)", IndexOutOfBoundsException.class, () -> x.takes(-1, 0));
        Checks.dueThrow("takes(0, 2)", IndexOutOfBoundsException.class, () -> x.takes(0, 2));
        Checks.due("own(1)", x.own(1), 4);
        Checks.due("own(2)", x.own(2), 1);
        Checks.due("half(0, 1)", x.half(0, 1), 0);
        Checks.due("takes(0, 1)", x.takes(0, 1), 1);
        Checks.due("own(3)", x.own(3), 3);
        Checks.due("half(0, 0)", x.half(0, 0), 1);
        Checks.due("half(0, 1)", x.half(0, 1), 2);
        Checks.due("takes(1, 1)", x.takes(1, 1), 1);
        Checks.due("takes(2, 0)", x.takes(2, 0), 0);
        Checks.due("own(4)", x.own(4), 3);
        Checks.due("own(5)", x.own(5), 1);
        Checks.due("own(6)", x.own(6), IntegerHouse.UNKNOWN);
        Checks.due("own(-1)", x.own(-1), IntegerHouse.UNKNOWN);
        x.own(3);
        Checks.read(x, "var y;");
        Checks.dueThrow("letters are those of then", IndexOutOfBoundsException.class, () -> x.half(0, 2));
        Checks.due("own(3)", x.own(3), 3);
        Checks.due("half(0, 2)", x.half(0, 2), 1);
        Checks.due("half(0, 3)", x.half(0, 3), 2);
        Checks.due("takes(2, 2)", x.takes(2, 2), 0);
        Checks.due("takes(1, 3)", x.takes(1, 3), 1);
    }

    private static void dueBound(IntegerHouse x, java.math.BigInteger want) {
        String digits = new StringBuilder(want.toString()).reverse().toString();
        for (int i = 0; i < digits.length() && i < 40; i++) {
            Checks.due("bound(" + i + ")", x.bound(i), digits.charAt(i) - '0');
        }
        int last = digits.length() - 1;
        Checks.due("bound(" + last + ")", x.bound(last), digits.charAt(last) - '0');
        Checks.due("bound behind the last digit", x.bound(digits.length()), 0);
        Checks.due("bound(-1)", x.bound(-1), 0);
        Checks.due("bound(2^31 - 1)", x.bound(Integer.MAX_VALUE), 0);
        Checks.due("bound(-2^31)", x.bound(Integer.MIN_VALUE), 0);
    }

    private static java.math.BigInteger bigBound(int n, int m, long a) {
        return java.math.BigInteger.valueOf(m * a).pow(2 * m + 1).multiply(java.math.BigInteger.valueOf(n));
    }

    private static void bound() {
        dueBound(new IntegerHouse(), java.math.BigInteger.ZERO);
        dueBound(Checks.house("var x;"), java.math.BigInteger.ZERO);
        dueBound(Checks.house("var x; claim a = 12 divides x + 11;"), java.math.BigInteger.ZERO);
        dueBound(Checks.house("var x; claim a = x <= 0;"), bigBound(1, 1, 1));
        dueBound(Checks.house("var x y z; claim a = 3 * x - 7 * y = 5; claim b = 12 divides x + 11 or 3 * x - 7 * y <= 5;"), bigBound(3, 2, 7));
        StringBuilder text = new StringBuilder("var x y z w;");
        for (int c = 0; c < 24; c++) {
            text.append("claim c").append(c).append("=x<=").append(c);
            for (int k = 1; k < 12; k++) {
                text.append(" or ").append(k).append("*y=").append(k == 1 ? 99999 - c : c);
            }
            text.append(";");
            if (text.length() > 1800 || c == 23) {
                break;
            }
        }
        IntegerHouse x = Checks.house(text.toString());
        int claims = x.count(1);
        Checks.due("claims", claims > 5 ? 1 : 0, 1);
        int lines = 23 * claims;
        dueBound(x, bigBound(4, lines, 99999));
        x.on(0, false);
        x.on(1, false);
        dueBound(x, bigBound(4, lines - 46, 99999 - 2));
        x.push();
        Checks.read(x, "claim last = x <= 5 and x <= 4;");
        dueBound(x, bigBound(4, lines - 46, 99999 - 2));
        // all the lines that there can be
        IntegerHouse y = Checks.house("var x y z w;");
        for (int c = 0; c < 24; c++) {
            StringBuilder claim = new StringBuilder("claim c" + c + "=x<=99999-" + c);
            for (int k = 0; k < 23; k++) {
                claim.append(" or y<=").append(k + 23 * c);
            }
            Checks.due("read", Checks.read(y, claim + ";"), 1);
        }
        dueBound(y, bigBound(4, 576, 99999));
    }

    private static void audit() {
        IntegerHouse x = Checks.house("var x; claim a = x > 3;");
        Checks.due("audit", x.audit(), 0);
        x.decide();
        x.push();
        x.sync();
        Checks.due("audit", x.audit(), 0);
    }

    /** Against values tried one by one. */
    private static void bruteForce() {
        String[] formulas = {"abs[x - 3] + 2 * abs[y] <= 9 and 3 divides x + y", "max[x, y] < 6 and min[x, y] > -4 and mod[x, 3] = mod[y, 2]",
            "div[x, 3] = y and abs[x] <= 20", "x >= 0 and y >= 0 and 2 * x + 3 * y = 30", "abs[x] < 9 and abs[y] < 9 and (x < y == 2 divides x)",
            "abs[x] <= 12 and abs[y] <= 12 and (5 divides 2 * x + y -> x = y)"};
        for (String formula : formulas) {
            IntegerHouse house = Checks.house("var x y; claim a = " + formula + ";");
            int models = 0;
            long greatest = Long.MIN_VALUE;
            long least = Long.MAX_VALUE;
            for (int a = -40; a <= 40; a++) {
                for (int b = -40; b <= 40; b++) {
                    if (isSo(formula, a, b)) {
                        models++;
                        greatest = Math.max(greatest, 3 * a - 2 * b + 1);
                        least = Math.min(least, 3 * a - 2 * b + 1);
                    }
                    if (a % 13 == 0 && b % 7 == 0) {
                        Checks.due(formula + " holds", house.holds(0, a, b, 0, 0), isSo(formula, a, b) ? 1 : 0);
                    }
                }
            }
            Checks.due("many of " + formula, house.many(), models);
            dueExtreme(house, "3 * x - 2 * y + 1", true, 1, greatest);
            dueExtreme(house, "3 * x - 2 * y + 1", false, 1, least);
        }
    }

    private static boolean isSo(String formula, int x, int y) {
        switch (formula.substring(0, 9)) {
            case "abs[x - 3": return Math.abs(x - 3) + 2 * Math.abs(y) <= 9 && Math.floorMod(x + y, 3) == 0;
            case "max[x, y]": return Math.max(x, y) < 6 && Math.min(x, y) > -4 && Math.floorMod(x, 3) == Math.floorMod(y, 2);
            case "div[x, 3]": return Math.floorDiv(x, 3) == y && Math.abs(x) <= 20;
            case "x >= 0 an": return x >= 0 && y >= 0 && 2 * x + 3 * y == 30;
            case "abs[x] < ": return Math.abs(x) < 9 && Math.abs(y) < 9 && x < y == (Math.floorMod(x, 2) == 0);
            default: return Math.abs(x) <= 12 && Math.abs(y) <= 12 && (Math.floorMod(2 * x + y, 5) != 0 || x == y);
        }
    }
}
