/** Promises 36 to 39: points, the vertex, the search by halves and cuts. */
final class RelaxTest {
    public static void main(String[] args) {
        relaxed();
        noVertex();
        relaxedRefusals();
        fractions();
        rows();
        search();
        halves();
        cuts();
        stuck();
        searchRefusals();
        Checks.finish();
    }

    private static int relax(IntegerHouse x, String term) {
        Checks.tape(x, term);
        int answer = x.relaxed();
        Checks.due("count(4)", x.count(4), 0);
        return answer;
    }

    private static void dueFractions(String call, IntegerHouse x, long... numbers) {
        for (int k = 0; k < numbers.length; k++) {
            Checks.due(call + " fraction(" + k + ")", x.fraction(k), numbers[k]);
        }
        Checks.dueThrow(call, IndexOutOfBoundsException.class, () -> x.fraction(numbers.length));
        Checks.dueThrow(call, IndexOutOfBoundsException.class, () -> x.fraction(-1));
    }

    private static void relaxed() {
        IntegerHouse x = Checks.house("var x y; claim a = 2 * x + 3 * y <= 12 and 3 * x + 2 * y <= 12; claim b = x >= 0 and y >= 0 and true;");
        Checks.due("relaxed", relax(x, "x + y"), 1);
        dueFractions("x + y", x, 24, 5, 12, 5, 12, 5);
        Checks.due("relaxed", relax(x, "2 * x - 7"), 1);
        dueFractions("2 x - 7", x, 1, 1, 4, 1, 0, 1);
        Checks.due("relaxed", relax(x, "-x - y + 10"), 1);
        dueFractions("-x - y + 10", x, 10, 1, 0, 1, 0, 1);
        // of one value the least x0, then the least x1
        Checks.due("relaxed", relax(x, "2 * x + 3 * y"), 1);
        dueFractions("2 x + 3 y", x, 12, 1, 0, 1, 4, 1);
        Checks.due("relaxed", relax(x, "5"), 1);
        dueFractions("5", x, 5, 1, 0, 1, 0, 1);
        Checks.due("relaxed", relax(x, "-y"), 1);
        dueFractions("-y", x, 0, 1, 0, 1, 0, 1);
        x.on(1, false);
        Checks.due("relaxed", relax(x, "x"), 2);
        Checks.due("what was told stays", x.fraction(4), 0);
        Checks.due("relaxed", relax(x, "-x - y"), 2);
        Checks.due("relaxed", relax(x, "5 * x + 5 * y"), 1);
        dueFractions("5 x + 5 y", x, 24, 1, 12, 5, 12, 5);
        IntegerHouse y = Checks.house("var x; claim a = 3 * x >= 1 and 5 * x <= 1;");
        Checks.due("no points", relax(y, "x"), 0);
        Checks.dueThrow("fraction", IndexOutOfBoundsException.class, () -> y.fraction(0));
        IntegerHouse z = Checks.house("var x; claim a = 3 * x > 1 and 5 * x < 4;");
        Checks.due("< and > are those of whole numbers", relax(z, "15 * x"), 0);
        IntegerHouse none = new IntegerHouse();
        Checks.due("no variables", relax(none, "3 - 5"), 1);
        dueFractions("3 - 5", none, -2, 1);
        Checks.read(none, "claim a = 1 < 0;");
        Checks.due("false", relax(none, "3"), 0);
    }

    private static void noVertex() {
        IntegerHouse x = Checks.house("var x y; claim a = 2 * x + 2 * y <= 5;");
        Checks.due("relaxed", relax(x, "3 * x + 3 * y + 1"), 3);
        dueFractions("3 x + 3 y + 1", x, 17, 2);
        Checks.due("relaxed", relax(x, "x"), 2);
        Checks.due("relaxed", relax(x, "4"), 3);
        dueFractions("4", x, 4, 1);
        Checks.read(x, "claim b = x >= 0;");
        // x0 has a least one, x1 has none for it: y goes down without end where the term is 0
        Checks.due("relaxed", relax(x, "0"), 3);
        Checks.due("relaxed", relax(x, "x + y"), 1);
        dueFractions("x + y", x, 5, 2, 0, 1, 5, 2);
        IntegerHouse y = Checks.house("var x y; claim a = y <= 3 and x <= 4;");
        Checks.due("relaxed", relax(y, "y"), 3);
        dueFractions("y", y, 3, 1);
        Checks.due("relaxed", relax(y, "x"), 3);
        Checks.due("relaxed", relax(y, "x + y"), 1);
        dueFractions("x + y", y, 7, 1, 4, 1, 3, 1);
        IntegerHouse z = Checks.house("var x;");
        Checks.due("relaxed", relax(z, "7"), 3);
        Checks.due("relaxed", relax(z, "x"), 2);
        IntegerHouse w = Checks.house("var x y; claim a = x >= 1 and x <= 1;");
        Checks.due("relaxed", relax(w, "x"), 3);
    }

    private static void relaxedRefusals() {
        IntegerHouse x = Checks.house("var x; claim a = x < 9 and x > 2; claim b = x < 1 or x < 2;");
        Checks.due("b is not plain", relax(x, "!"), IntegerHouse.STATE);
        Checks.due("fault", x.fault(), 0);
        IntegerHouse first = Checks.house("var x; claim a = x < 1 or x < 2; claim b = x < 1;");
        Checks.due("a is not plain", relax(first, "x"), IntegerHouse.STATE);
        first.on(0, false);
        Checks.due("relaxed", relax(first, "x"), 1);
        x.on(1, false);
        Checks.due("relaxed", relax(x, "!"), -1000);
        Checks.due("fault", x.fault(), 1);
        String[] faults = {"", "abs[x]", "x + min[x, 1]", "x x", "x if x < 1", "21 * x", " 20 * x + x", " 99999 + 1", " -99999 - 1", "y",
            " [999999 * x + 5 * x] - 999999 * x", "a", "x +"};
        int[] places = {0, 0, 4, 2, 2, 0, 1, 1, 1, 0, 1, 0, 3};
        int[] kinds = {2, 2, 2, 2, 2, 4, 4, 4, 4, 3, 4, 2, 2};
        for (int k = 0; k < faults.length; k++) {
            Checks.due("relaxed of " + faults[k], relax(x, faults[k]), -1000 - places[k]);
            Checks.due("fault of " + faults[k], x.fault(), kinds[k]);
            Checks.tape(x, faults[k]);
            Checks.due("search of " + faults[k], x.search(0, 1), -1000 - places[k]);
        }
        Checks.due("relaxed", relax(x, "20 * x - 99999"), 1);
        Checks.due("relaxed", relax(x, "30 * x - 20 * x - 99998 - 1"), 1);
        Checks.due("fraction(0)", x.fraction(0), 80 - 99999);
    }

    private static void fractions() {
        IntegerHouse x = Checks.house("var x y z w; claim a = 7 * x + 3 * y - 2 * z + w <= 11 and -3 * x + 5 * y + z <= 9 and 2 * x - y + 4 * z <= 13"
            + " and x + y + z + 5 * w <= 17 and x >= -4 and y >= -4 and z >= -4 and w >= -4;");
        Checks.due("relaxed", relax(x, "x + y + z + w"), 1);
        // checked by putting them in: four rows hold with =
        long[] f = new long[10];
        for (int k = 0; k < 10; k++) {
            f[k] = x.fraction(k);
            if (k % 2 == 1) {
                Checks.due("a denominator is above 0", f[k] > 0 ? 1 : 0, 1);
                Checks.due("in lowest terms", java.math.BigInteger.valueOf(f[k]).gcd(java.math.BigInteger.valueOf(f[k - 1])).intValue(), 1);
            }
        }
        double value = 0;
        for (int v = 0; v < 4; v++) {
            value += (double) f[2 + 2 * v] / f[3 + 2 * v];
        }
        Checks.due("the value", Math.round(1e6 * value), Math.round(1e6 * f[0] / f[1]));
        IntegerHouse y = Checks.house("var x y; claim a = 20 * x <= 99999 and 19 * y <= -99999 and y > 0 - 99999 and x > 0;");
        Checks.due("relaxed", relax(y, "20 * x - 20 * y"), 1);
        dueFractions("20 x - 20 y", y, 99999 + 20 * 99998, 1, 99999, 20, -99998, 1);
    }

    private static void rows() {
        IntegerHouse x = Checks.rows(40);
        Checks.due("40 rows", relax(x, "x"), 3);
        Checks.read(x, "claim like = x + 1 * y <= 50;");
        Checks.due("like ones are one", relax(x, "x"), 3);
        Checks.read(x, "claim more = x + 5 * y <= 50;");
        Checks.due("41 rows", relax(x, "x"), IntegerHouse.HARD);
        Checks.tape(x, "x");
        Checks.due("41 rows", x.search(0, 5), IntegerHouse.HARD);
        Checks.due("count(4)", x.count(4), 0);
        Checks.dueThrow("best", IndexOutOfBoundsException.class, () -> x.best(0));
        Checks.due("a fault is told before", relax(x, "x x"), -1002);
        IntegerHouse y = Checks.rows(40);
        Checks.read(y, "claim f = 1 < 0 and x < x;");
        Checks.due("what is false is a row", relax(y, "x"), IntegerHouse.HARD);
        IntegerHouse z = Checks.rows(39);
        Checks.read(z, "claim f = 1 < 0 and x < x; claim g = 1 = 0;");
        Checks.due("but once", relax(z, "x"), 0);
    }

    private static void dueSearch(IntegerHouse x, String term, int way, int most, int answer, long... best) {
        Checks.tape(x, term);
        String call = "search(" + way + ", " + most + ") of " + term;
        Checks.due(call, x.search(way, most), answer);
        for (int k = 0; k < best.length; k++) {
            Checks.due(call + " best(" + k + ")", x.best(k), best[k]);
        }
        Checks.due("count(4)", x.count(4), 0);
        Checks.dueThrow(call, IndexOutOfBoundsException.class, () -> x.best(-1));
        Checks.dueThrow(call, IndexOutOfBoundsException.class, () -> x.best(7));
    }

    private static void search() {
        IntegerHouse x = Checks.house("var x y; claim a = 2 * x + 2 * y <= 7 and x >= 0 and y >= 0;");
        // vertices: (0, 7/2); x <= .. y at most 3: (1/2, 3); x at most 0: (0, 3) the best; x at least 1: (1, 5/2), 7/2 is not above 3
        dueSearch(x, "x + y", 0, 100, 1, 3, 5, 0, 0, 3, 0, 0);
        dueSearch(x, "x + y", 0, 1, 2, 0, 1, 0, 0, 0, 0, 0);
        dueSearch(x, "x + y", 0, 2, 2, 0, 2, 0, 0, 0);
        dueSearch(x, "x + y", 0, 3, 2, 3, 3, 0, 0, 3);
        dueSearch(x, "x + y", 0, 5, 1, 3, 5, 0, 0, 3);
        // the basis is x + y <= 7/2 and x >= 0; y = 1/2 (2 x + 2 y) + 1 (-x), so R is 1/2 and 0, and the cut is x + y <= 3
        dueSearch(x, "x + y", 1, 100, 1, 3, 1, 1, 0, 3);
        dueSearch(x, "2", 0, 100, 1, 2, 1, 0, 0, 0);
        dueSearch(x, "x - 50", 0, 100, 1, -47, 3, 0, 3, 0);
        Checks.read(x, "claim b = 3 * x + 3 * y = 10;");
        dueSearch(x, "x", 0, 1, 2, 0, 1, 0, 0, 0);
        dueSearch(x, "x", 1, 100, 0, 0, 1, 1, 0, 0);
        IntegerHouse none = new IntegerHouse();
        dueSearch(none, "3 - 5", 1, 1, 1, -2, 1, 0, 0, 0, 0, 0);
        Checks.read(none, "claim a = 1 < 0;");
        dueSearch(none, "3 - 5", 1, 1, 0, 0, 1, 0, 0, 0, 0, 0);
    }

    private static void halves() {
        IntegerHouse x = Checks.house("var x; claim a = 2 * x <= -3 and x >= -9;");
        // -3/2: at least -1 comes onto the pile, then at most -2, that is taken first
        dueSearch(x, "x", 0, 100, 1, -2, 3, 0, -2);
        dueSearch(x, "x", 0, 2, 2, -2, 2, 0, -2);
        dueSearch(x, "x", 1, 100, 1, -2, 1, 1, -2);
        IntegerHouse y = Checks.house("var x y; claim a = 4 * x + 4 * y = 10 and x >= 0 and y >= 0;");
        Checks.tape(y, "x");
        Checks.due("all were done", y.search(0, 100), 0);
        Checks.due("best(0)", y.best(0), 0);
    }

    private static void cuts() {
        // 3 x <= 8, whole x: one cut x <= 2
        IntegerHouse x = Checks.house("var x y; claim a = 3 * x + 0 * y <= 8 and y <= 5 and 7 * y <= 20;");
        dueSearch(x, "x + y", 1, 100, 1, 4, 1, 2, 2, 2);
        // y = 5/2 in the basis of 2 y <= 5 and x - y <= 0, in this order
        IntegerHouse y = Checks.house("var x y; claim a = 2 * y <= 5 and x <= y and x + y <= 5;");
        dueSearch(y, "3 * x + 2 * y", 1, 100, 1, 10, 1, 1, 2, 2);
    }

    /** What has no end, and what would come to be too great. */
    private static void stuck() {
        IntegerHouse x = Checks.house("var x y; claim a = x + y <= 5;");
        dueSearch(x, "x", 0, 100, 3, 0, 1, 0, 0, 0);
        dueSearch(x, "x + y", 1, 100, 3, 0, 1, 0, 0, 0);
        // at most 100000000 and at least 100000001: both halves are looked at ahead
        int[] most = {99999, 25000, 24999};
        for (int w : most) {
            IntegerHouse far = Checks.house("var x y z w; claim a = 2 * x <= 20 * y + 1 and y <= 20 * z and z <= 20 * w and w <= " + w
                + " and x >= 0 and y >= 0 and z >= 0 and w >= 0;");
            dueSearch(far, "x", 0, 1, w == 24999 ? 2 : 3, 0, 1, 0, 0, 0, 0, 0);
            dueSearch(far, "-x", 0, 1, 1, 0, 1, 0, 0, 0, 0, 0);
        }
        // so many nodes at most
        IntegerHouse deep = Checks.house("var x y; claim a = 2 * x - 2 * y = 1 and x >= 0 and x <= 999;");
        dueSearch(deep, "x", 0, 100, 2, 0, 100, 0, 0, 0);
        dueSearch(deep, "x", 0, 99, 2, 0, 99, 0, 0, 0);
        // -100000000 is not too great, -100000001 is
        String small = " and y <= 20 * z and z <= 20 * w and w <= 25000 and x <= 9 and y >= 0 and z >= 0 and w >= 0;";
        dueSearch(Checks.house("var x y z w; claim a = -2 * x <= 20 * y - 1" + small), "-x", 0, 1, 2, 0, 1, 0, 0);
        dueSearch(Checks.house("var x y z w; claim a = -2 * x <= 20 * y + 1" + small), "-x", 0, 1, 3, 0, 1, 0, 0);
        // cuts whose factors would come to be above 200
        IntegerHouse cuts = Checks.house("var x y z w; claim a = x >= -28 and x <= 51 and y >= -7 and y <= 7 and z >= -4 and z <= 50"
            + " and w >= -23 and w <= 16 and 1*x - 4*y + 18*z - 8*w = 124 and - 17*x + 20*y + 7*z - 1*w <= 89"
            + " and 10*x + 19*y + 17*z + 7*w <= 298;");
        dueSearch(cuts, "8*x + 10*y + 5*z + 11*w", 1, 100, 3, 239, 13, 30, 8);
        dueSearch(cuts, "8*x + 10*y + 5*z + 11*w", 1, 12, 2, 239, 12);
    }

    private static void searchRefusals() {
        IntegerHouse x = Checks.house("var x; claim a = x < 9; claim b = x < 1 or x < 2;");
        int[][] outside = {{-1, 5}, {2, 5}, {0, 0}, {1, 101}, {0, -1}};
        for (int[] o : outside) {
            Checks.tape(x, "!");
            Checks.due("search(" + o[0] + ", " + o[1] + ")", x.search(o[0], o[1]), IntegerHouse.OUTSIDE);
            Checks.due("count(4)", x.count(4), 0);
        }
        Checks.tape(x, "!");
        Checks.due("search", x.search(0, 1), IntegerHouse.STATE);
        Checks.dueThrow("best", IndexOutOfBoundsException.class, () -> x.best(0));
        x.on(1, false);
        Checks.tape(x, " abs[x]");
        Checks.due("search", x.search(0, 100), -1001);
        Checks.dueThrow("best", IndexOutOfBoundsException.class, () -> x.best(0));
        Checks.tape(x, "x");
        Checks.due("search", x.search(0, 100), 1);
        Checks.due("best", x.best(0), 8);
        Checks.tape(x, "x x");
        Checks.due("search", x.search(0, 100), -1002);
        Checks.due("best stays", x.best(0), 8);
    }
}
