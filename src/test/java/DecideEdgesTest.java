/** Promises 22 to 35, 42 and 43, and the document's parts 4 and 5: each limit, the one beyond it, each refusal. */
final class DecideEdgesTest {
    private static final int[] FAR = {Integer.MIN_VALUE, Integer.MAX_VALUE};
    /** Each made of four atoms or five that come to so many places. */
    private static final String PLACES_3000 = "var x y; claim a = -6 * x + 5 * y <= 156; claim b = 9 * x - 6 * y <= 96;"
        + "claim c = -3 * x - 6 * y <= 30; claim d = 3 divides 2 * x + 2 * y + 1; claim e = 3 * y <= 181;"
        + "claim all = a and b and c and d and e;";
    private static final String PLACES_3001 = "var x y; claim a = -9 * x - 4 * y <= -68; claim b = -4 * x + 6 * y <= -39;"
        + "claim c = 5 divides 2 * x + 3 * y + 2; claim d = -3 * x + 6 * y <= 176; claim e = true;"
        + "claim all = a and b and c and d and e;";
    /** Of this one all 3000 places are so for other values. */
    private static final String STATES_3000 = "var x y; claim a = -8 * x - 7 * y <= -62; claim b = x - 8 * y <= 194;"
        + "claim c = -x - y <= 211; claim d = -x + y <= 52; claim e = 5 divides 4 * x + 4 * y + 1;"
        + "claim all = ((a == b) == (c == d)) == e;";

    public static void main(String[] args) {
        heights();
        least();
        noModel();
        toldValues();
        follows();
        atomsAtWork();
        placesAtWork();
        lastPlace();
        workOfHidden();
        hardTellsNothing();
        extremeSizes();
        extremeEnds();
        extremeFaults();
        number();
        many();
        core();
        inCore();
        alike();
        divisorPlaces();
        linePlaces();
        own();
        ownLetters();
        ownOfMany();
        bound();
        refusals();
        audit();
        Checks.finish();
    }

    private static void set(IntegerHouse x, int from, int to, boolean is) {
        for (int c = from; c < to; c++) {
            x.on(c, is);
        }
    }

    private static String signed(long n) {
        return n < 0 ? "-" + -n : "" + n;
    }

    // ---- promises 22 to 25

    /** The height is the least m such that all values are -2^m .. 2^m - 1. */
    private static void heights() {
        for (int m = 0; m <= 16; m++) {
            long two = 1L << m;
            long[] values = {two - 1, two, -two, -two - 1};
            int[] heights = {m, m + 1, m, m + 1};
            for (int k = 0; k < 4; k++) {
                IntegerHouse x = Checks.house("var x; claim a = x = " + signed(values[k]) + ";");
                Checks.due("decide", x.decide(), 1);
                Checks.due("value " + values[k], x.value(0), values[k]);
                Checks.due("height of " + values[k], x.height(), heights[k]);
                Checks.due("many", x.many(), 1);
                IntegerHouse y = Checks.house("var z y x; claim a = x = " + signed(values[k]) + ";");
                Checks.due("decide", y.decide(), 1);
                Checks.due("the greatest of all counts", y.height(), heights[k]);
                Checks.due("value(0)", y.value(0), 0);
                Checks.due("value(2)", y.value(2), values[k]);
            }
        }
        // chains of lines tell of greater ones
        IntegerHouse z = Checks.house("var x y z; claim a = x = 5 * y and y = 7 * z and z = 99999;");
        Checks.due("decide", z.decide(), 1);
        Checks.due("value(0)", z.value(0), 3499965);
        Checks.due("value(1)", z.value(1), 699993);
        Checks.due("value(2)", z.value(2), 99999);
        Checks.due("height", z.height(), 22);
        Checks.due("a longer one", Checks.house("var x y z; claim a = x = 20 * y and y = 20 * z and z = 99999;").decide(), IntegerHouse.HARD);
    }

    private static void dueLeast(String formula, int height, long... values) {
        IntegerHouse x = Checks.house("var x y; claim a = " + formula + ";");
        Checks.due("decide of " + formula, x.decide(), 1);
        Checks.due("height of " + formula, x.height(), height);
        for (int v = 0; v < values.length; v++) {
            Checks.due("value(" + v + ") of " + formula, x.value(v), values[v]);
        }
    }

    private static void least() {
        dueLeast("true", 0, 0, 0);
        dueLeast("x < 0", 0, -1, 0);
        dueLeast("y < 0", 0, 0, -1);
        dueLeast("x > 0", 1, 1, 0);
        dueLeast("x < -1", 1, -2, 0);
        dueLeast("x = 1 or x = -2", 1, -2, 0);
        dueLeast("x = 3 or x = 2 or x = -3", 2, 2, 0);
        dueLeast("x = 3 or x = -3", 2, -3, 0);
        dueLeast("x = 3 or x = -4", 2, -4, 0);
        // bits 0 of both, then bits 1: (2, 1) has letters 2, 1; (1, 2) has letters 1, 2
        dueLeast("x + y = 3 and x > 0 and y > 0", 2, 1, 2);
        dueLeast("x = 0 and y = 2 or x = 2 and y = 0", 2, 2, 0);
        dueLeast("x = 1 and y = 0 or x = 0 and y = 1", 1, 1, 0);
        dueLeast("x = -1 and y = 0 or x = 0 and y = -1", 0, -1, 0);
        dueLeast("x = 6 and y = -8 or x = 4 and y = 4", 3, 4, 4);
        dueLeast("x = 7 and y = 0 or x = -8 and y = 7", 3, 7, 0);
    }

    private static void noModel() {
        IntegerHouse x = new IntegerHouse();
        Checks.due("no variables, no claims", x.decide(), 1);
        Checks.due("height", x.height(), 0);
        Checks.dueThrow("value(0)", IndexOutOfBoundsException.class, () -> x.value(0));
        Checks.due("many", x.many(), 1);
        Checks.due("core", x.core(), 0);
        Checks.due("places", x.places(), 1);
        Checks.read(x, "claim a = false;");
        Checks.due("decide", x.decide(), 0);
        Checks.due("what was told stays", x.height(), 0);
        Checks.due("many", x.many(), 0);
        Checks.due("core", x.core(), 1);
        IntegerHouse y = Checks.house("claim a = false;");
        Checks.due("decide", y.decide(), 0);
        Checks.due("none were told", y.height(), IntegerHouse.NONE);
        y.on(0, false);
        Checks.due("none is ON", y.decide(), 1);
        Checks.due("height", y.height(), 0);
    }

    private static void toldValues() {
        for (int n = 0; n <= 4; n++) {
            IntegerHouse x = new IntegerHouse();
            String[] names = {"x", "y", "z", "w"};
            for (int v = 0; v < n; v++) {
                Checks.read(x, "var " + names[v] + "; claim " + names[v] + "1 = " + names[v] + " = " + (v + 1) + ";");
            }
            Checks.dueThrow("none were told", IndexOutOfBoundsException.class, () -> x.value(0));
            Checks.due("decide", x.decide(), 1);
            for (int v = 0; v < n; v++) {
                Checks.due("value(" + v + ")", x.value(v), v + 1);
            }
            for (int v : new int[] {-1, n, n + 1, FAR[0], FAR[1]}) {
                Checks.dueThrow("value(" + v + ") of " + n, IndexOutOfBoundsException.class, () -> x.value(v));
            }
            if (n < 4) {
                Checks.read(x, "var v;");
                int one = n;
                Checks.dueThrow("no such variable then", IndexOutOfBoundsException.class, () -> x.value(one));
                x.decide();
                Checks.due("now there is", x.value(n), 0);
            }
        }
        IntegerHouse y = Checks.house("var x;");
        y.push();
        Checks.read(y, "var y; claim a = y = 5;");
        y.decide();
        y.pop();
        Checks.due("it is there no more, but was then", y.value(1), 5);
        y.decide();
        Checks.dueThrow("no such variable then", IndexOutOfBoundsException.class, () -> y.value(1));
    }

    private static int follows(IntegerHouse x, String text) {
        Checks.tape(x, text);
        return x.follows();
    }

    private static void follows() {
        IntegerHouse x = Checks.house("var x; claim a = x >= 4; claim b = x <= 4; claim c = x = 99;");
        x.on(2, false);
        Checks.due("for the one model", follows(x, "x = 4"), 1);
        Checks.due("height", x.height(), IntegerHouse.NONE);
        Checks.due("for none", follows(x, "x != 4"), 0);
        Checks.due("value", x.value(0), 4);
        Checks.due("height", x.height(), 3);
        Checks.due("a claim that is not ON can be named", follows(x, "c"), 0);
        Checks.due("not", follows(x, "not c"), 1);
        x.on(2, true);
        Checks.due("of no models it is so for all", follows(x, "false"), 1);
        Checks.due("what was told stays", x.value(0), 4);
        x.on(0, false);
        x.on(2, false);
        Checks.due("the least for which it is not", follows(x, "x > 3 or x < 1"), 0);
        Checks.due("value", x.value(0), 1);
        Checks.due("height", x.height(), 1);
        int acts = x.count(7);
        int bytes = x.count(5);
        follows(x, "x = 4");
        Checks.due("it is no act", x.count(7) + x.count(5), acts + bytes);
        IntegerHouse none = new IntegerHouse();
        Checks.due("no variables", follows(none, "1 < 2"), 1);
        Checks.due("no variables", follows(none, "1 > 2"), 0);
        Checks.due("height", none.height(), 0);
    }

    // ---- part 4: 32 atoms, 3000 places

    private static String lines(String claim, int from, int to) {
        StringBuilder text = new StringBuilder("claim " + claim + " = x <= " + from);
        for (int k = from + 1; k < to; k++) {
            text.append(" or x <= ").append(k);
        }
        return text + ";";
    }

    /** Atoms by ones of x: 24 of claim a, 8 of b, and of c just one that is none of these. */
    private static IntegerHouse atoms() {
        return Checks.house("var x y;" + lines("a", 0, 24) + lines("b", 24, 32) + lines("c", 32, 33) + lines("d", 16, 40)
            + "claim e = x <= 3 and x < 5 and x < 32;");
    }

    private static void atomsAtWork() {
        IntegerHouse x = atoms();
        set(x, 2, 5, false);
        Checks.due("32 atoms: places", x.places() > 0 ? 1 : 0, 1);
        Checks.due("32 atoms: decide", x.decide(), 1);
        Checks.due("32 atoms: many", x.many(), -2);
        Checks.due("32 atoms: core", x.core(), 0);
        Checks.due("32 atoms: alike", x.alike(0, 1), 0);
        Checks.due("like ones are one", follows(x, "x <= 31 and x < 31 and x <= 5"), 0);
        Checks.due("33 asked", follows(x, "x <= 32"), IntegerHouse.HARD);
        Checks.due("33 asked by a claim's name", follows(x, "c"), IntegerHouse.HARD);
        Checks.due("a divisor, too", follows(x, "2 divides x"), IntegerHouse.HARD);
        Checks.tape(x, "x if x <= 31");
        Checks.due("32 atoms: extreme", x.extreme(true), 1);
        Checks.due("number", x.number(), 23);
        Checks.tape(x, "x if x <= 32");
        Checks.due("33 atoms: extreme", x.extreme(true), IntegerHouse.HARD);
        Checks.tape(x, "x");
        Checks.due("a term has none", x.extreme(true), 1);
        x.on(4, true);
        Checks.due("like ones of another claim are one", x.decide(), 1);
        x.on(2, true);
        Checks.due("33 atoms: decide", x.decide(), IntegerHouse.HARD);
        Checks.due("33 atoms: many", x.many(), IntegerHouse.HARD);
        Checks.due("33 atoms: core", x.core(), IntegerHouse.HARD);
        Checks.due("33 atoms: places", x.places(), IntegerHouse.HARD);
        Checks.due("these two alone: 25", x.alike(0, 2), 0);
        Checks.due("these two alone: 40 less 16 .. 23, 24 and 16", x.alike(0, 3), IntegerHouse.HARD);
        Checks.due("one alone", x.own(3) > 0 ? 1 : 0, 1);
        x.on(0, false);
        Checks.due("9 atoms and 3 more", x.decide(), 1);
        IntegerHouse y = Checks.house("var x;" + lines("a", 0, 24) + lines("b", 8, 32) + lines("c", 9, 33));
        Checks.due("alike of 32", y.alike(0, 1), 0);
        Checks.due("alike of 33", y.alike(0, 2), IntegerHouse.HARD);
        Checks.due("alike of 25", y.alike(1, 2), 0);
        Checks.due("alike of 24", y.alike(0, 0), 1);
    }

    private static void placesAtWork() {
        IntegerHouse x = Checks.house(PLACES_3000);
        x.on(5, false);
        Checks.due("3000 places", x.places(), 3000);
        Checks.due("decide", x.decide(), 1);
        Checks.due("many", x.many() != IntegerHouse.HARD ? 1 : 0, 1);
        Checks.due("core", x.core(), 0);
        Checks.due("alike", x.alike(5, 0), 0);
        Checks.due("alike", x.alike(5, 5), 1);
        Checks.due("own", x.own(5) > 0 ? 1 : 0, 1);
        Checks.due("follows", follows(x, "a and b"), 1);
        Checks.tape(x, "y");
        Checks.due("extreme", x.extreme(true), 1);
        Checks.due("number", x.number(), 60);
        IntegerHouse y = Checks.house(PLACES_3001);
        y.on(5, false);
        Checks.due("3001 places", y.places(), IntegerHouse.HARD);
        Checks.due("decide", y.decide(), IntegerHouse.HARD);
        Checks.due("many", y.many(), IntegerHouse.HARD);
        Checks.due("core", y.core(), IntegerHouse.HARD);
        Checks.due("alike", y.alike(5, 0), IntegerHouse.HARD);
        Checks.due("own", y.own(5), IntegerHouse.HARD);
        Checks.due("follows", follows(y, "true"), IntegerHouse.HARD);
        Checks.tape(y, "1");
        Checks.due("extreme", y.extreme(true), IntegerHouse.HARD);
        Checks.due("own of another", y.own(0) > 0 ? 1 : 0, 1);
        y.on(3, false);
        Checks.due("without one of them", y.decide(), 1);
        Checks.due("asked besides", follows(y, "d"), IntegerHouse.HARD);
        Checks.tape(y, "1 if d");
        Checks.due("asked besides", y.extreme(true), IntegerHouse.HARD);
    }

    /** One of the models of 3000 places is come to by the last place. */
    private static void lastPlace() {
        IntegerHouse x = Checks.house("var x y; claim a = x + 3 * y <= 49; claim b = -7 * x + 7 * y <= -25; claim c = -9 * x + 8 * y <= 219;"
            + "claim d = -x + 4 * y <= -21; claim e = 5 divides 2 * x + 4 * y + 3; claim all = a and b and c and not d and not e;");
        for (int claim = 0; claim < 5; claim++) {
            x.on(claim, false);
        }
        int models = 0;
        for (int a = -512; a < 512; a++) {
            for (int b = -512; b < 512; b++) {
                boolean all = a + 3 * b <= 49 && 7 * b - 7 * a <= -25 && 8 * b - 9 * a <= 219 && 4 * b - a > -21;
                models += all && Math.floorMod(2 * a + 4 * b + 3, 5) != 0 ? 1 : 0;
            }
        }
        Checks.due("places", x.places(), 3000);
        Checks.due("many", x.many(), models);
    }

    /** What is named is at work, what is OFF is not, whatever its size. */
    private static void workOfHidden() {
        IntegerHouse x = atoms();
        set(x, 0, 5, false);
        Checks.due("none is ON", x.places(), 1);
        Checks.read(x, "claim f = a and x <= 1; claim g = b;");
        Checks.due("24 and 8 by name", x.places() > 0 ? 1 : 0, 1);
        x.on(2, true);
        Checks.due("and one more", x.places(), IntegerHouse.HARD);
        x.on(5, false);
        Checks.due("without the first", x.places() > 0 ? 1 : 0, 1);
    }

    private static void hardTellsNothing() {
        IntegerHouse x = atoms();
        set(x, 1, 5, false);
        x.decide();
        x.own(1);
        Checks.tape(x, "x + 7");
        x.extreme(true);
        Checks.read(x, "claim f = x >= 90; claim g = x < x;");
        x.on(0, false);
        Checks.due("core", x.core(), 1);
        set(x, 0, 7, true);
        String before = Seen.of(x);
        Checks.due("decide", x.decide(), IntegerHouse.HARD);
        Checks.due("follows", follows(x, "x < 1"), IntegerHouse.HARD);
        Checks.tape(x, "x");
        Checks.due("extreme", x.extreme(false), IntegerHouse.HARD);
        Checks.due("many", x.many(), IntegerHouse.HARD);
        Checks.due("core", x.core(), IntegerHouse.HARD);
        Checks.due("alike", x.alike(0, 3), IntegerHouse.HARD);
        Checks.due("places", x.places(), IntegerHouse.HARD);
        Checks.due("nothing is told anew", Seen.of(x), before);
        Checks.due("HARD is no FAULT", x.fault(), 0);
        Checks.due("but the tape is used up", x.count(4), 0);
        IntegerHouse y = Checks.house(PLACES_3001);
        y.own(0);
        before = Seen.of(y);
        Checks.due("own", y.own(5), IntegerHouse.HARD);
        Checks.due("nothing is told anew", Seen.of(y), before);
    }

    // ---- promises 26 and 27

    private static void dueExtreme(IntegerHouse x, String text, boolean greatest, int answer, long number) {
        Checks.tape(x, text);
        Checks.due("extreme(" + greatest + ") of " + text, x.extreme(greatest), answer);
        Checks.due("number of " + text, x.number(), number);
    }

    private static void dueExtremeFault(IntegerHouse x, String text, int kind, int place) {
        String before = Seen.of(x);
        Checks.tape(x, text);
        Checks.due("extreme of " + text, x.extreme(true), -1000 - place);
        Checks.due("fault of " + text, x.fault(), kind);
        Checks.due("what is refused changes nothing", Seen.of(x), before);
    }

    private static void extremeSizes() {
        IntegerHouse x = Checks.house("var x y z w; claim a = x >= 0 and y >= 0 and z >= 0 and w >= 0 and x + y + z + w = 1;");
        dueExtreme(x, "12 * x", true, 1, 12);
        dueExtreme(x, "-12 * w", false, 1, -12);
        dueExtreme(x, "3 * x + 3 * y - 3 * z - 3 * w", true, 1, 3);
        dueExtreme(x, "99 * x - 88 * x + z", true, 1, 11);
        dueExtreme(x, "x + 999999", true, 1, 1000000);
        dueExtreme(x, "-999999 - 1 + y", false, 1, -1000000);
        dueExtreme(x, "0", true, 1, 0);
        String[] great = {" 13 * x", " -13 * w", " 4 * x + 3 * y - 3 * z - 3 * w", " 7 * x - 6 * y", " 12 * x + w", " x + 999999 + 1 + 1",
            " 999999 * x - 999999 * x + 2 * [999999 * x] - 999999 * x - 999999 * x"};
        for (String text : great) {
            dueExtremeFault(x, text, 4, 1);
        }
    }

    private static void extremeEnds() {
        IntegerHouse x = Checks.house("var x y; claim a = x <= 99999; claim b = y <= 20 * x; claim c = x >= y;");
        dueExtreme(x, "x", true, 1, 99999);
        dueExtreme(x, "x", false, 2, 99999);
        dueExtreme(x, "y", true, 1, 99999);
        x.on(2, false);
        dueExtreme(x, "y", true, 1, 1999980);
        dueExtreme(x, "6 * x + 6 * y", true, 1, 6 * 99999 + 6 * 1999980);
        dueExtreme(x, "y if 12 divides y", true, 1, 1999980);
        dueExtreme(x, "y if 3 divides y - 1", true, 1, 1999978);
        dueExtreme(x, "x if x < y and y < x", true, 0, 1999978);
        dueExtreme(x, "x if x >= 99999", false, 1, 99999);
        x.on(0, false);
        dueExtreme(x, "y - x", true, 2, 99999);
        dueExtreme(x, "y if x = y", true, 2, 99999);
        dueExtreme(x, "5", true, 1, 5);
        dueExtreme(x, "5 if false", true, 0, 5);
        dueExtreme(x, "x - x", false, 1, 0);
        IntegerHouse y = Checks.house("var x y z w; claim a = x <= 3 * y and y <= 3 * z and z <= 4 * w and w <= 99999;");
        dueExtreme(y, "12 * x", true, 1, 12L * 36 * 99999);
        dueExtreme(y, "-12 * x", false, 1, -12L * 36 * 99999);
        dueExtreme(y, "-12 * x", true, 2, -12L * 36 * 99999);
        // a value that is far from all others
        IntegerHouse z = Checks.house("var x; claim a = x = 99999 or x <= -99999 and x >= -99999 or x = 0;");
        dueExtreme(z, "x", true, 1, 99999);
        dueExtreme(z, "x", false, 1, -99999);
        dueExtreme(z, "x if x < 99999 and x > -99999", false, 1, 0);
    }

    private static void extremeFaults() {
        IntegerHouse x = Checks.house("var x; claim a = x < 9;");
        Checks.tape(x, "x");
        x.extreme(true);
        dueExtremeFault(x, "", 2, 0);
        dueExtremeFault(x, "  ", 2, 2);
        dueExtremeFault(x, "if", 2, 0);
        dueExtremeFault(x, "x if", 2, 4);
        dueExtremeFault(x, "x if if", 2, 5);
        dueExtremeFault(x, "x if a if a", 2, 7);
        dueExtremeFault(x, "x if a;", 2, 6);
        dueExtremeFault(x, "x < 9", 2, 2);
        dueExtremeFault(x, "a", 2, 0);
        dueExtremeFault(x, "x if x", 2, 6);
        dueExtremeFault(x, "x and a", 2, 2);
        dueExtremeFault(x, "2 divides x", 2, 2);
        dueExtremeFault(x, "13 divides x", 2, 3);
        dueExtremeFault(x, "not x", 2, 0);
        dueExtremeFault(x, "(x)", 2, 0);
        dueExtremeFault(x, "true", 2, 0);
        for (String word : new String[] {"abs[x]", "min[x, 1]", "max[x, 1]", "div[x, 2]", "mod[x, 2]"}) {
            dueExtremeFault(x, word, 2, 0);
            dueExtremeFault(x, "x - 3 * " + word, 2, 8);
            dueExtremeFault(x, "[" + word + "]", 2, 1);
            Checks.tape(x, "x if " + word + " = 1");
            Checks.due("they may stand behind if", x.extreme(true), 1);
        }
        Checks.tape(x, "x");
        x.extreme(true);
        // sizes go behind the grammar of all, before what the formula has behind its grammar
        dueExtremeFault(x, " 13 * x if !", 1, 11);
        dueExtremeFault(x, " 13 * x if nope", 3, 11);
        dueExtremeFault(x, " 13 * x if 1 divides x", 4, 11);
        dueExtremeFault(x, " 13 * x if a !", 1, 13);
        dueExtremeFault(x, " 13 * x if x < 100001", 4, 1);
        dueExtremeFault(x, " 12 * x if x < 100001", 4, 11);
        dueExtremeFault(x, " 13 * x if mod[x, 12] < mod[x, 12]", 4, 1);
        dueExtremeFault(x, " 12 * x if mod[x, 12] < mod[x, 12]", 5, 11);
        dueExtremeFault(x, " [999999 + 2] if a", 4, 1);
    }

    private static void number() {
        IntegerHouse x = Checks.house("var x; claim a = x < 9;");
        Checks.due("before", x.number(), 0);
        dueExtreme(x, "x", false, 2, 0);
        dueExtreme(x, "x if x > 9", true, 0, 0);
        dueExtremeFault(x, "y", 3, 0);
        Checks.due("refused ones tell none", x.number(), 0);
        dueExtreme(x, "x", true, 1, 8);
        dueExtreme(x, "x", false, 2, 8);
        dueExtreme(x, "-x", false, 1, -8);
    }

    // ---- promise 28

    private static void dueMany(String text, int want) {
        Checks.due("many of " + text, Checks.house(text).many(), want);
    }

    private static void many() {
        String box = "var x y; claim a = x >= 0 and y >= 0 and x < 10000 and y < 100000;";
        dueMany(box, 1000000000);
        dueMany(box + "claim b = not (x = 77 and y = 0);", 999999999);
        dueMany("var x y; claim a = x >= 0 and y >= 0 and x < 19019 and y < 52579;", 1000000000);
        dueMany("var x y; claim a = x >= 0 and y >= 0 and x < 99999 and y < 99999;", 1000000000);
        dueMany("", 1);
        dueMany("claim a = true;", 1);
        dueMany("claim a = false;", 0);
        dueMany("var x;", -2);
        dueMany("var x y z w;", -2);
        dueMany("var x; claim a = x = x + 1;", 0);
        dueMany("var x; claim a = x >= 99999;", -2);
        dueMany("var x; claim a = x <= -99999;", -2);
        dueMany("var x; claim a = x >= 99999 and x <= 99999;", 1);
        dueMany("var x; claim a = 12 divides x;", -2);
        dueMany("var x; claim a = 12 divides x and 0 <= x and x < 13;", 2);
        dueMany("var x y; claim a = x = 20 * y;", -2);
        dueMany("var x y; claim a = x = 20 * y and y = 20 * x;", 1);
        dueMany("var x y; claim a = x = 20 * y and y = 20 * x and x != 0;", 0);
        dueMany("var x y; claim a = x >= 0 and x <= 2; claim b = y = 2 or y < -5 and y > -9;", 12);
        dueMany("var x y; claim a = 2 * x = 2 * y + 1 or x = 1 and y = 1;", 1);
        // a claim that is OFF does not count; variables that no claim has do
        IntegerHouse x = Checks.house("var x; claim a = x = 1; claim b = x = 2;");
        Checks.due("many", x.many(), 0);
        x.on(1, false);
        Checks.due("many", x.many(), 1);
        Checks.read(x, "var y;");
        Checks.due("many", x.many(), -2);
    }

    // ---- promises 29 to 31

    private static void core() {
        // each is left out from the last one on, if the others still speak against one another
        IntegerHouse x = Checks.house("var x; claim a = x > 5; claim b = x < 3; claim c = x < 2; claim d = x = 9; claim e = true; claim f = x < 1;");
        Checks.due("core", x.core(), 2);
        Checks.due("inCore(0)", x.inCore(0), 0);
        Checks.due("inCore(1)", x.inCore(1), 1);
        x.on(1, false);
        Checks.due("core", x.core(), 2);
        Checks.due("inCore(1)", x.inCore(1), 2);
        x.on(2, false);
        Checks.due("core: d is left out, f is not", x.core(), 2);
        Checks.due("inCore(0)", x.inCore(0), 0);
        Checks.due("inCore(1)", x.inCore(1), 5);
        x.on(0, false);
        Checks.due("core", x.core(), 2);
        Checks.due("inCore(0)", x.inCore(0), 3);
        x.on(5, false);
        Checks.due("there is a model", x.core(), 0);
        Checks.due("none is told", x.inCore(0), IntegerHouse.NONE);
        StringBuilder text = new StringBuilder("var x;");
        for (int k = 0; k < 24; k++) {
            text.append("claim c").append(k).append(k % 2 == 0 ? "=x>=0;" : "=x<0;");
        }
        IntegerHouse y = Checks.house(text.toString());
        Checks.due("the first two of 24", y.core(), 2);
        Checks.due("inCore(0)", y.inCore(0), 0);
        Checks.due("inCore(1)", y.inCore(1), 1);
        set(y, 0, 22, false);
        Checks.due("the last two", y.core(), 2);
        Checks.due("inCore(0)", y.inCore(0), 22);
        Checks.due("inCore(1)", y.inCore(1), 23);
        // all of 24: of values 1 .. 23 each is left out by one
        StringBuilder all = new StringBuilder("var x;claim c0 = x > 0 and x < 24;");
        for (int k = 1; k < 24; k++) {
            all.append("claim c").append(k).append("=x!=").append(k).append(";");
        }
        IntegerHouse z = Checks.house(all.toString());
        Checks.due("atoms", z.core(), IntegerHouse.HARD);
        z = Checks.house("var x y; claim a = x > 0 and x < 5; claim b = x != 1; claim c = x != 2; claim d = x != 3; claim e = x != 4; claim f = y = 1;");
        Checks.due("five of six", z.core(), 5);
        for (int k = 0; k < 5; k++) {
            Checks.due("inCore(" + k + ")", z.inCore(k), k);
        }
    }

    private static void inCore() {
        IntegerHouse x = Checks.house("var x; claim a = x > 5; claim b = x < 3;");
        for (int k : new int[] {-1, 0, 1, 24, FAR[0], FAR[1]}) {
            Checks.due("before", x.inCore(k), IntegerHouse.NONE);
        }
        x.core();
        for (int k : new int[] {-1, 2, 24, FAR[0], FAR[1]}) {
            Checks.due("inCore(" + k + ")", x.inCore(k), IntegerHouse.NONE);
        }
        x.pop();
        x.on(9, true);
        Checks.due("refusals leave it", x.inCore(1), 1);
    }

    private static void alike() {
        IntegerHouse x = Checks.house("var x; claim a = x > 5; claim b = x >= 6; claim c = x > 6; claim d = x < x; claim e = 2 divides 1;"
            + "claim f = 2 divides x; claim g = mod[x, 2] = 0; claim h = div[x, 2] + div[x, 2] = x; claim i = true; claim j = x != x + 1;");
        int[][] same = {{0, 1}, {1, 0}, {3, 4}, {5, 6}, {6, 7}, {7, 5}, {8, 9}, {2, 2}, {3, 3}};
        int[][] others = {{0, 2}, {2, 1}, {0, 3}, {4, 8}, {5, 8}, {6, 4}};
        for (int[] pair : same) {
            Checks.due("alike(" + pair[0] + ", " + pair[1] + ")", x.alike(pair[0], pair[1]), 1);
        }
        for (int[] pair : others) {
            Checks.due("alike(" + pair[0] + ", " + pair[1] + ")", x.alike(pair[0], pair[1]), 0);
        }
        set(x, 0, 10, false);
        Checks.due("whether they are ON counts for nothing", x.alike(0, 1), 1);
        for (int far : new int[] {-1, 10, FAR[0], FAR[1]}) {
            Checks.due("alike(0, " + far + ")", x.alike(0, far), IntegerHouse.UNKNOWN);
            Checks.due("alike(" + far + ", 0)", x.alike(far, 0), IntegerHouse.UNKNOWN);
            Checks.due("alike(" + far + ", " + far + ")", x.alike(far, far), IntegerHouse.UNKNOWN);
        }
        // the other one is one value away
        for (int v : new int[] {0, 1, -1, 99998, -99998}) {
            IntegerHouse y = Checks.house("var x; claim a = x <= " + signed(v) + "; claim b = x <= " + signed(v) + " and x != " + signed(v) + ";");
            Checks.due("but for " + v, y.alike(0, 1), 0);
        }
    }

    // ---- promises 32 to 35

    private static int places(String text) {
        return Checks.house(text).places();
    }

    /** A divisor becomes NEVER or ALWAYS at the end of its even numbers; an odd one goes round. */
    private static void divisorPlaces() {
        int[] want = new int[13];
        for (int n = 2; n <= 12; n++) {
            // by hand: the numbers c that x of one variable comes to, and NEVER and ALWAYS
            java.util.Set<String> seen = new java.util.HashSet<>();
            java.util.ArrayDeque<int[]> open = new java.util.ArrayDeque<>();
            open.add(new int[] {n, 0});
            while (!open.isEmpty()) {
                int[] p = open.poll();
                if (!seen.add(p[0] + "/" + p[1])) {
                    continue;
                }
                for (int bit = 0; bit < 2 && p[0] > 0; bit++) {
                    int m = p[1] + bit;
                    boolean even = p[0] % 2 == 0;
                    open.add(even && m % 2 == 1 ? new int[] {-1, 0} : even && p[0] == 2 ? new int[] {0, 0}
                        : even ? new int[] {p[0] / 2, m / 2 % (p[0] / 2)} : new int[] {p[0], (m % 2 == 0 ? m / 2 : (m + p[0]) / 2) % p[0]});
                }
            }
            want[n] = seen.size();
            Checks.due("places of " + n + " divides x", places("var x; claim a = " + n + " divides x;"), want[n]);
        }
        Checks.due("2 divides x", want[2], 3);
        Checks.due("8 divides x", want[8], 5);
        Checks.due("NEVER at once", places("var x; claim a = 2 divides 2 * x + 1;"), 1);
        Checks.due("like ones stand alike", places("var x; claim a = 2 divides x and 2 divides 3 * x;"), 3);
        Checks.due("factors modulo n / 2", places("var x; claim a = 4 divides 2 * x;"), 5);
    }

    private static void linePlaces() {
        Checks.due("c stays", places("var x; claim a = x <= 0;"), 2);
        Checks.due("c -1 stays", places("var x; claim a = x <= -1;"), 1);
        Checks.due("c 1: 0, -1", places("var x; claim a = x <= 1;"), 3);
        Checks.due("c -2: -1, -2", places("var x; claim a = x <= -2;"), 2);
        Checks.due("c -3: -2, -1", places("var x; claim a = x <= -3;"), 3);
        Checks.due("factor -1: c 0, then 0 and 0", places("var x; claim a = x >= 0;"), 1);
        Checks.due("factor 20", places("var x; claim a = 20 * x <= 0;"), 21);
        Checks.due("factor -20", places("var x; claim a = 20 * x >= 0;"), 20);
        Checks.due("no atoms", places("var x y z w; claim a = true or 1 < 0;"), 1);
    }

    private static void own() {
        IntegerHouse x = Checks.house("var x; claim a = x <= 0; claim b = true; claim c = false; claim d = 2 divides x;");
        Checks.dueThrow("before", IndexOutOfBoundsException.class, () -> x.half(0, 0));
        Checks.dueThrow("before", IndexOutOfBoundsException.class, () -> x.takes(0, 0));
        Checks.due("own(1)", x.own(1), 1);
        Checks.due("takes", x.takes(0, 0) + 2 * x.takes(0, 1), 3);
        Checks.due("own(2)", x.own(2), 1);
        Checks.due("takes", x.takes(0, 0) + 2 * x.takes(0, 1), 0);
        Checks.due("own(0)", x.own(0), 2);
        // c = 0: by 0 it stays, by 1 it is -1, that stays by both
        Checks.due("half(0, 0)", x.half(0, 0), 0);
        Checks.due("half(0, 1)", x.half(0, 1), 1);
        Checks.due("half(1, 0)", x.half(1, 0), 1);
        Checks.due("half(1, 1)", x.half(1, 1), 1);
        Checks.due("takes(0)", x.takes(0, 0) + 2 * x.takes(0, 1), 3);
        Checks.due("takes(1)", x.takes(1, 0) + 2 * x.takes(1, 1), 2);
        int[][] outside = {{-1, 0}, {2, 0}, {0, -1}, {0, 2}, {FAR[0], 0}, {FAR[1], 0}, {0, FAR[0]}, {0, FAR[1]}, {2, 2}};
        for (int[] o : outside) {
            Checks.dueThrow("half", IndexOutOfBoundsException.class, () -> x.half(o[0], o[1]));
            Checks.dueThrow("takes", IndexOutOfBoundsException.class, () -> x.takes(o[0], o[1]));
        }
        for (int claim : new int[] {-1, 4, FAR[0], FAR[1]}) {
            Checks.due("own(" + claim + ")", x.own(claim), IntegerHouse.UNKNOWN);
        }
        Checks.due("what is told stays", x.half(0, 1), 1);
        x.on(0, false);
        Checks.due("OFF or not", x.own(0), 2);
        Checks.due("own(3)", x.own(3), 3);
        Checks.due("the even state", x.takes(x.half(0, 0), 0), 1);
        Checks.due("the odd state", x.takes(x.half(0, 1), 0), 0);
        Checks.due("numbered as they are come to", x.half(0, 0) * 10 + x.half(0, 1), 12);
        // the state behind a state is that of the values' halves
        IntegerHouse y = Checks.house("var x y; claim a = 3 * x - 5 * y <= 7 or 6 divides x + y; claim b = 3 divides x -> x < y;");
        for (int claim = 0; claim < 2; claim++) {
            Checks.due("own", y.own(claim) > 1 ? 1 : 0, 1);
            for (int v = -9; v <= 9; v++) {
                for (int w = -9; w <= 9; w += 3) {
                    int state = 0;
                    for (int bit = 0; bit < 5; bit++) {
                        state = y.half(state, (v >> bit & 1) | (w >> bit & 1) << 1);
                    }
                    Checks.due("own form for " + v + ", " + w, y.takes(state, (v < 0 ? 1 : 0) | (w < 0 ? 2 : 0)), y.holds(claim, v, w, 0, 0));
                }
            }
        }
    }

    private static void ownLetters() {
        String[] names = {"x", "y", "z", "w"};
        for (int n = 0; n <= 4; n++) {
            IntegerHouse x = new IntegerHouse();
            for (int v = 0; v < n; v++) {
                Checks.read(x, "var " + names[v] + ";");
            }
            Checks.read(x, n == 0 ? "claim a = true;" : "claim a = " + names[n - 1] + " < 0;");
            Checks.due("own with " + n + " variables", x.own(0), 1);
            int letters = 1 << n;
            for (int letter = 0; letter < letters; letter++) {
                Checks.due("half(0, " + letter + ")", x.half(0, letter), 0);
                Checks.due("takes(0, " + letter + ")", x.takes(0, letter), n == 0 || letter >> n - 1 == 1 ? 1 : 0);
            }
            for (int letter : new int[] {-1, letters, 16}) {
                Checks.dueThrow("half(0, " + letter + ")", IndexOutOfBoundsException.class, () -> x.half(0, letter));
                Checks.dueThrow("takes(0, " + letter + ")", IndexOutOfBoundsException.class, () -> x.takes(0, letter));
            }
        }
    }

    /** Own forms of some thousand places, against the plain model. */
    private static void ownOfMany() {
        String others = "var x y z; claim a = true; claim b = true; claim c = true; claim d = true; claim e = true;";
        String[] texts = {PLACES_3000, STATES_3000, PLACES_3000.replace("a and b and c and d and e", "(a or b) == (c or d and e)"),
            PLACES_3001.replace("88", "87").replace("claim all = a and b", "claim all = a -> b").replace("<= 176", "<= 170"),
            others + "claim f = 7 divides x + 2 * y - z and 11 divides 3 * x - y + 5 * z or 9 divides x + y;",
            others + "claim f = (11 divides x + 2 * y == 7 divides x - 3 * y) == (9 divides 2 * x + y == x + 3 * y <= 5);"};
        for (String text : texts) {
            IntegerHouse x = Checks.house(text);
            Model model = new Model();
            Checks.tape(model, text);
            Checks.due("read", model.read(), 6);
            int states = x.own(5);
            Checks.due("states of " + text, states, model.own(5));
            Checks.due("3000 states", states == 3000 ? 1 : 0, text.equals(STATES_3000) ? 1 : 0);
            for (int k = 0; k < states; k++) {
                for (int letter = 0; letter < 1 << x.count(0); letter++) {
                    Checks.due("half(" + k + ", " + letter + ")", x.half(k, letter), model.half(k, letter));
                    Checks.due("takes(" + k + ", " + letter + ")", x.takes(k, letter), model.takes(k, letter));
                }
            }
        }
    }

    // ---- promises 42 and 43

    private static void dueBound(IntegerHouse x, int variables, int lines, int greatest) {
        java.math.BigInteger number = java.math.BigInteger.valueOf((long) lines * greatest).pow(2 * lines + 1)
            .multiply(java.math.BigInteger.valueOf(variables));
        String digits = number.signum() == 0 ? "0" : new StringBuilder(number.toString()).reverse().toString();
        for (int i = 0; i < digits.length(); i++) {
            Checks.due("bound(" + i + ")", x.bound(i), digits.charAt(i) - '0');
        }
        for (int i : new int[] {digits.length(), digits.length() + 1, 1000000, FAR[1], -1, FAR[0]}) {
            Checks.due("bound(" + i + ")", x.bound(i), 0);
        }
    }

    private static void bound() {
        dueBound(new IntegerHouse(), 0, 0, 1);
        dueBound(Checks.house("var x;"), 1, 0, 1);
        dueBound(Checks.house("claim a = 1 < 0;"), 0, 0, 1);
        dueBound(Checks.house("var x; claim a = 2 divides x or x < x;"), 1, 0, 1);
        dueBound(Checks.house("var x; claim a = x <= 0;"), 1, 1, 1);
        dueBound(Checks.house("var x; claim a = -20 * x <= 0;"), 1, 1, 20);
        dueBound(Checks.house("var x; claim a = 3 * x <= -99999;"), 1, 1, 99999);
        dueBound(Checks.house("var x y z w; claim a = x = y; claim b = x <= y and z >= w and 7 divides x + 6;"), 4, 3, 1);
        IntegerHouse x = atoms();
        dueBound(x, 2, 40, 39);
        Checks.due("where others are HARD", x.decide(), IntegerHouse.HARD);
        set(x, 0, 5, false);
        dueBound(x, 2, 0, 1);
        x.on(2, true);
        dueBound(x, 2, 1, 32);
        // one after another, the same digits again
        x.on(4, true);
        dueBound(x, 2, 4, 32);
        x.on(4, false);
        dueBound(x, 2, 1, 32);
    }

    private static void refusals() {
        IntegerHouse x = Checks.house("var x; claim a = x > 5; claim b = x < 3; claim c = x != 7;");
        x.core();
        x.on(1, false);
        x.decide();
        x.own(0);
        Checks.tape(x, "x");
        x.extreme(false);
        String before = Seen.of(x);
        Checks.due("alike", x.alike(0, 3), IntegerHouse.UNKNOWN);
        Checks.due("own", x.own(-1), IntegerHouse.UNKNOWN);
        String[] wrong = {"!", "x <", "y < 1", "1 divides x", "x < 100001", "mod[x,12] < mod[x,12]"};
        int[] kinds = {1, 2, 3, 4, 4, 5};
        int[] places = {0, 3, 0, 0, 0, 0};
        for (int k = 0; k < wrong.length; k++) {
            Checks.due("follows of " + wrong[k], follows(x, wrong[k]), -1000 - places[k]);
            Checks.due("fault", x.fault(), kinds[k]);
        }
        Checks.due("nothing changes", Seen.of(x), before);
        String told = Seen.told(x);
        x.push();
        x.cut(0, 0);
        x.sync();
        Checks.tape(x, "x");
        int[] answers = {x.decide(), x.follows(), x.extreme(true), x.many(), x.core(), x.alike(0, 0), x.alike(9, 9), x.places(), x.own(0),
            x.own(9), x.bound(0), x.bound(-1), x.audit()};
        for (int k = 0; k < answers.length; k++) {
            Checks.due("DOWN " + k, answers[k], IntegerHouse.DOWN);
        }
        Checks.due("what was told stays", Seen.told(x), told);
        x.start();
        Checks.due("behind start(), too", Seen.told(x), told);
        Checks.due("though there are no claims", x.count(1), 0);
    }

    private static void audit() {
        IntegerHouse x = new IntegerHouse();
        Checks.due("a new one", x.audit(), 0);
        Checks.read(x, PLACES_3000);
        x.decide();
        Checks.read(x, "!");
        x.push();
        x.sync();
        x.poke(1, 9, 9);
        String before = Seen.of(x);
        Checks.due("audit", x.audit(), 0);
        Checks.due("it changes nothing", Seen.of(x), before);
    }
}
