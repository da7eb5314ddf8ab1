/** Promises 36 to 39 and the document's part 6: each limit, the one beyond it, each refusal. */
final class RelaxEdgesTest {
    private static final int[] FAR = {Integer.MIN_VALUE, Integer.MAX_VALUE};

    public static void main(String[] args) {
        sizes();
        faults();
        order();
        points();
        vertices();
        noVertex();
        fractionsToldLast();
        fractionIndex();
        rowLimit();
        falseRows();
        variables();
        nodeLimit();
        bestIndex();
        bestToldLast();
        bestSoFar();
        wayOfHalves();
        threeCuts();
        cutFactors();
        cutNumbers();
        halfNumbers();
        noEnd();
        greatNumbers();
        refused();
        Checks.finish();
    }

    private static int relax(IntegerHouse x, String term) {
        Checks.tape(x, term);
        int answer = x.relaxed();
        Checks.due("the tape is used up", x.count(4), 0);
        return answer;
    }

    private static int search(IntegerHouse x, String term, int way, int most) {
        Checks.tape(x, term);
        int answer = x.search(way, most);
        Checks.due("the tape is used up", x.count(4), 0);
        return answer;
    }

    private static void dueFractions(IntegerHouse x, long... numbers) {
        for (int k = 0; k < numbers.length; k++) {
            Checks.due("fraction(" + k + ")", x.fraction(k), numbers[k]);
        }
        for (int k : new int[] {-1, numbers.length, numbers.length + 1, 10, FAR[0], FAR[1]}) {
            Checks.dueThrow("fraction(" + k + ")", IndexOutOfBoundsException.class, () -> x.fraction(k));
        }
    }

    private static void dueBest(IntegerHouse x, long... numbers) {
        for (int k = 0; k < numbers.length; k++) {
            Checks.due("best(" + k + ")", x.best(k), numbers[k]);
        }
        for (int k = numbers.length; k < 7; k++) {
            Checks.due("best(" + k + ")", x.best(k), 0);
        }
    }

    // ---- promise 36: what is asked

    /** A factor of 20, a number of 99999 in size. */
    private static void sizes() {
        IntegerHouse x = Checks.house("var x y; claim a = x >= 0 and x <= 2 and y >= 0 and y <= 3;");
        String[] right = {"20 * x", "-20 * x", "20 * x - 20 * y", "99999", "-99999", "20 * y + 99999", "x - 99999", "99998 + 1",
            "21 * x - x", "100000 - 1", "100000 - 1 - 0 * y", "999999 * x - 999999 * x", "[20 * x - 99999]"};
        long[] values = {40, 0, 40, 99999, -99999, 100059, -99997, 99999, 40, 99999, 99999, 0, -99959};
        for (int k = 0; k < right.length; k++) {
            Checks.due("relaxed of " + right[k], relax(x, right[k]), 1);
            Checks.due("its value", x.fraction(0), values[k]);
            Checks.due("search of " + right[k], search(x, right[k], 0, 100), 1);
            Checks.due("its value", x.best(0), values[k]);
        }
        String[] great = {" 21 * x", " -21 * x", " x - 21 * y", " 100000", " -100000", " x + 100000", " 99999 + 1", " -99999 - 1",
            " 20 * x + x", " 999999", " 999999 + 999999 - 999999", " 2 * [999999]"};
        String before = Seen.of(x);
        for (String text : great) {
            Checks.due("relaxed of " + text, relax(x, text), -1001);
            Checks.due("fault", x.fault(), 4);
            Checks.read(x, "!");
            Checks.due("search of " + text, search(x, text, 1, 100), -1001);
            Checks.due("fault", x.fault(), 4);
            Checks.read(x, "!");
        }
        Checks.due("what is refused changes nothing", Seen.of(x), before);
    }

    private static void faults() {
        IntegerHouse x = Checks.house("var x; claim a = x <= 9;");
        relax(x, "x");
        search(x, "x", 0, 9);
        String[] texts = {"", "  ", "abs[x]", "min[x, 1]", "max[x, 1]", "div[x, 2]", "mod[x, 2]", "x + abs[x]", "[abs[x]]", "a", "nope", "x x",
            "x if x < 1", "x < 1", "x;", "2 * 3", "- - x", "true", "(x)", "x + !", "1234567", "x -", "2 divides x"};
        int[] kinds = {2, 2, 2, 2, 2, 2, 2, 2, 2, 2, 3, 2, 2, 2, 2, 2, 2, 2, 2, 1, 1, 2, 2};
        int[] places = {0, 2, 0, 0, 0, 0, 0, 4, 1, 0, 0, 2, 2, 2, 1, 4, 2, 0, 0, 4, 0, 3, 2};
        String before = Seen.of(x);
        for (int k = 0; k < texts.length; k++) {
            Checks.due("relaxed of " + texts[k], relax(x, texts[k]), -1000 - places[k]);
            Checks.due("fault", x.fault(), kinds[k]);
            Checks.read(x, kinds[k] == 3 ? "!" : "claim b = nope;");
            Checks.due("search of " + texts[k], search(x, texts[k], 0, 1), -1000 - places[k]);
            Checks.due("fault", x.fault(), kinds[k]);
        }
        Checks.due("what is refused changes nothing", Seen.of(x), before);
    }

    /** DOWN, OUTSIDE, STATE, FAULT, HARD. */
    private static void order() {
        IntegerHouse x = Checks.rows(41);
        Checks.read(x, "claim b = x != 1;");
        Checks.due("OUTSIDE goes before STATE", search(x, "!", 2, 1), IntegerHouse.OUTSIDE);
        Checks.due("OUTSIDE goes before STATE", search(x, "!", 0, 0), IntegerHouse.OUTSIDE);
        Checks.due("STATE goes before a FAULT", search(x, "!", 1, 1), IntegerHouse.STATE);
        Checks.due("STATE goes before a FAULT", relax(x, "!"), IntegerHouse.STATE);
        Checks.due("STATE goes before HARD", relax(x, "x"), IntegerHouse.STATE);
        Checks.due("no FAULT yet", x.fault(), 0);
        x.on(x.count(1) - 1, false);
        Checks.due("OUTSIDE goes before a FAULT", search(x, "!", -1, 1), IntegerHouse.OUTSIDE);
        Checks.due("a FAULT goes before HARD", search(x, "!", 0, 1), -1000);
        Checks.due("a FAULT goes before HARD", relax(x, "21 * x"), -1000);
        Checks.due("HARD", relax(x, "x"), IntegerHouse.HARD);
        Checks.due("HARD", search(x, "x", 0, 1), IntegerHouse.HARD);
        Checks.tape(x, "!");
        x.push();
        x.cut(0, 0);
        x.sync();
        Checks.due("DOWN goes before all", x.relaxed(), IntegerHouse.DOWN);
        Checks.due("DOWN goes before all", x.search(-9, -9), IntegerHouse.DOWN);
        Checks.due("the tape stays", x.count(4), 1);
        // one that is not PLAIN among others, first or last
        for (int at = 0; at < 3; at++) {
            IntegerHouse y = Checks.house("var x;");
            for (int c = 0; c < 3; c++) {
                Checks.read(y, "claim c" + c + (c == at ? " = x < 1 or x < 2;" : " = x < 3;"));
            }
            Checks.due("STATE", relax(y, "x"), IntegerHouse.STATE);
            y.on(at, false);
            Checks.due("it is OFF", relax(y, "x"), 1);
        }
    }

    // ---- promise 36: points and the vertex

    private static void points() {
        String[] none = {"x <= 0 and x >= 1", "x < 1 and x > 0", "2 * x = 1 and 3 * x = 1", "x = 1 and x = 2", "1 < 0", "x = 0 and 0 = 1",
            "x + y <= 0 and x >= 1 and y >= 0", "x - y >= 1 and y - x >= 0"};
        for (String rows : none) {
            IntegerHouse x = Checks.house("var x y; claim a = " + rows + ";");
            Checks.due("no points: " + rows, relax(x, "x"), 0);
            Checks.due("no points: " + rows, relax(x, "5"), 0);
            Checks.dueThrow("none were told", IndexOutOfBoundsException.class, () -> x.fraction(0));
            Checks.due("all were done", search(x, "x", 0, 1), 0);
            dueBest(x, 0, 1, 0);
        }
        IntegerHouse y = Checks.house("var x y; claim a = x >= 1 and x <= 1 and y = 2;");
        Checks.due("one point", relax(y, "3 * x - y + 4"), 1);
        dueFractions(y, 5, 1, 1, 1, 2, 1);
        IntegerHouse z = Checks.house("var x y; claim a = 2 * x = 1 and 3 * y = -2;");
        Checks.due("one point", relax(z, "x + y"), 1);
        dueFractions(z, -1, 6, 1, 2, -2, 3);
        // > and < are those of whole numbers: 3 x > 1 is 3 x >= 2
        IntegerHouse w = Checks.house("var x; claim a = 3 * x > 1 and 5 * x < 4;");
        Checks.due("3 x >= 2 and 5 x <= 3", relax(w, "x"), 0);
        IntegerHouse v = Checks.house("var x; claim a = 3 * x > 1 and 4 * x < 4;");
        Checks.due("3 x >= 2 and 4 x <= 3", relax(v, "x"), 1);
        dueFractions(v, 3, 4, 3, 4);
        Checks.due("the least", relax(v, "-x"), 1);
        dueFractions(v, -2, 3, 2, 3);
    }

    /** Of the points of its greatest value the one of the least x0, of these of the least x1, and so on. */
    private static void vertices() {
        IntegerHouse x = Checks.house("var x y z; claim a = x >= -1 and x <= 1 and y >= -1 and y <= 1 and z >= -1 and z <= 1;");
        dueVertex(x, "0", 0, -1, -1, -1);
        dueVertex(x, "x", 1, 1, -1, -1);
        dueVertex(x, "-x", 1, -1, -1, -1);
        dueVertex(x, "y", 1, -1, 1, -1);
        dueVertex(x, "z - y", 2, -1, -1, 1);
        dueVertex(x, "x + y + z", 3, 1, 1, 1);
        dueVertex(x, "99999", 99999, -1, -1, -1);
        Checks.read(x, "claim b = x + y + z = 1;");
        dueVertex(x, "x + y + z", 1, -1, 1, 1);
        dueVertex(x, "x + y", 2, 1, 1, -1);
        dueVertex(x, "7", 7, -1, 1, 1);
        Checks.read(x, "claim c = x >= y;");
        dueVertex(x, "7", 7, 0, 0, 1);
        dueVertex(x, "y", 1, 1, 1, -1);
    }

    private static void dueVertex(IntegerHouse x, String term, long value, long... at) {
        Checks.due("relaxed of " + term, relax(x, term), 1);
        Checks.due("value of " + term, x.fraction(0), value);
        Checks.due("its denominator", x.fraction(1), 1);
        for (int v = 0; v < at.length; v++) {
            Checks.due("variable " + v + " for " + term, x.fraction(2 + 2 * v), at[v]);
            Checks.due("its denominator", x.fraction(3 + 2 * v), 1);
        }
    }

    private static void noVertex() {
        IntegerHouse x = Checks.house("var x y; claim a = x <= 5;");
        Checks.due("x has an end, y none", relax(x, "x"), 3);
        dueFractions(x, 5, 1);
        Checks.due("no end", relax(x, "-x"), 2);
        Checks.due("no end", relax(x, "y"), 2);
        Checks.due("a number alone has a value, x0 no least one", relax(x, "4"), 3);
        dueFractions(x, 4, 1);
        Checks.read(x, "claim b = y >= 2;");
        Checks.due("now y has a least one", relax(x, "x"), 1);
        dueFractions(x, 5, 1, 5, 1, 2, 1);
        Checks.due("x0 has none", relax(x, "-y"), 3);
        dueFractions(x, -2, 1);
        Checks.read(x, "claim c = x >= y;");
        Checks.due("x0 has one by y", relax(x, "-y"), 1);
        dueFractions(x, -2, 1, 2, 1, 2, 1);
        IntegerHouse none = Checks.house("var x y;");
        Checks.due("no rows", relax(none, "0"), 3);
        dueFractions(none, 0, 1);
        Checks.due("no rows", relax(none, "x - x"), 3);
        Checks.due("no rows", relax(none, "x - y"), 2);
        // a row along the term has an end for it alone
        IntegerHouse y = Checks.house("var x y z w; claim a = 2 * x - 4 * y + 6 * z <= 7;");
        Checks.due("half of it", relax(y, "x - 2 * y + 3 * z"), 3);
        dueFractions(y, 7, 2);
        Checks.due("its opposite", relax(y, "2 * y - x - 3 * z"), 2);
        Checks.due("another one", relax(y, "x - 2 * y + 3 * z + w"), 2);
    }

    // ---- promise 37

    private static void fractionsToldLast() {
        IntegerHouse x = Checks.house("var x; claim a = 2 * x <= 7 and x >= 0; claim b = x >= 9; claim c = x != 4;");
        x.on(1, false);
        x.on(2, false);
        Checks.dueThrow("none", IndexOutOfBoundsException.class, () -> x.fraction(0));
        Checks.due("relaxed", relax(x, "x"), 1);
        dueFractions(x, 7, 2, 7, 2);
        x.on(1, true);
        Checks.due("no points", relax(x, "x"), 0);
        dueFractions(x, 7, 2, 7, 2);
        x.on(2, true);
        Checks.due("STATE", relax(x, "x"), IntegerHouse.STATE);
        x.on(2, false);
        Checks.due("a fault", relax(x, "21 * x"), -1000);
        x.on(1, false);
        x.on(0, false);
        Checks.due("no end", relax(x, "x"), 2);
        dueFractions(x, 7, 2, 7, 2);
        Checks.due("no vertex", relax(x, "8"), 3);
        dueFractions(x, 8, 1);
        x.on(0, true);
        Checks.due("relaxed", relax(x, "-2 * x - 1"), 1);
        dueFractions(x, -1, 1, 0, 1);
        Checks.due("search is another call", search(x, "x", 0, 9), 1);
        dueFractions(x, -1, 1, 0, 1);
        Checks.read(x, "var y;");
        dueFractions(x, -1, 1, 0, 1);
    }

    private static void fractionIndex() {
        String[] names = {"x", "y", "z", "w"};
        StringBuilder rows = new StringBuilder("claim a = true");
        StringBuilder text = new StringBuilder();
        for (int n = 0; n <= 4; n++) {
            if (n > 0) {
                text.append("var ").append(names[n - 1]).append(";");
                rows.append(" and ").append(n + 1).append(" * ").append(names[n - 1]).append(" = -1");
            }
            IntegerHouse x = Checks.house(text + "" + rows + ";");
            Checks.due("relaxed with " + n + " variables", relax(x, "-3"), 1);
            long[] want = new long[2 + 2 * n];
            want[0] = -3;
            want[1] = 1;
            for (int v = 0; v < n; v++) {
                want[2 + 2 * v] = -1;
                want[3 + 2 * v] = v + 2;
            }
            dueFractions(x, want);
        }
    }

    // ---- rows: 40 at most, like ones being one

    private static void rowLimit() {
        for (int many = 39; many <= 42; many++) {
            IntegerHouse x = Checks.rows(many);
            Checks.due(many + " rows: relaxed", relax(x, "x"), many <= 40 ? 3 : IntegerHouse.HARD);
            Checks.due(many + " rows: search", search(x, "x", 0, 1), many <= 40 ? 3 : IntegerHouse.HARD);
        }
        IntegerHouse x = Checks.rows(40);
        Checks.read(x, "claim like = x <= 50 and x + y <= 50 and x < 51 and c0;");
        Checks.due("like ones are one", relax(x, "x"), 3);
        Checks.read(x, "claim other = 2 * x <= 100;");
        Checks.due("one of other factors is another", relax(x, "x"), IntegerHouse.HARD);
        x.on(x.count(1) - 1, false);
        Checks.due("it is OFF", relax(x, "x"), 3);
        Checks.read(x, "claim equal = 2 * x = 100;");
        Checks.due("= is two of them", relax(x, "x"), IntegerHouse.HARD);
        IntegerHouse y = Checks.rows(38);
        Checks.read(y, "claim equal = 2 * x = 100;");
        Checks.due("40 with it", relax(y, "x"), 3);
        Checks.read(y, "claim none = 3 < 4 and x = x and true;");
        Checks.due("what is just true is none", relax(y, "x"), 3);
    }

    private static void falseRows() {
        IntegerHouse x = Checks.rows(39);
        Checks.read(x, "claim f = 1 < 0 and x < x and 5 = 4; claim g = 0 > 7; claim h = f and g;");
        Checks.due("false ones are one row", relax(x, "x"), 0);
        Checks.due("no points", search(x, "x", 1, 1), 0);
        IntegerHouse y = Checks.rows(40);
        Checks.read(y, "claim f = x < x;");
        Checks.due("it is one", relax(y, "x"), IntegerHouse.HARD);
        y.on(y.count(1) - 1, false);
        Checks.due("when it is ON", relax(y, "x"), 3);
        Checks.read(y, "claim g = f;");
        Checks.due("or named by one that is", relax(y, "x"), IntegerHouse.HARD);
    }

    // ---- promises 38 and 39

    private static void variables() {
        IntegerHouse none = new IntegerHouse();
        Checks.due("no variables", search(none, "-5", 0, 1), 1);
        dueBest(none, -5, 1, 0);
        Checks.due("no variables", search(none, "7", 1, 100), 1);
        dueBest(none, 7, 1, 0);
        IntegerHouse x = Checks.house("var x y z w; claim a = 2 * x = 4 and 2 * y = -6 and z = 0 and w = 99999;");
        Checks.due("four", search(x, "x + y + z + w - 99999", 1, 1), 1);
        dueBest(x, -1, 1, 0, 2, -3, 0, 99999);
    }

    private static void nodeLimit() {
        IntegerHouse x = Checks.house("var x y; claim a = 2 * x + 2 * y <= 7 and x >= 0 and y >= 0;");
        int[][] outside = {{-1, 1}, {2, 1}, {0, 0}, {0, 101}, {1, -1}, {FAR[0], 1}, {FAR[1], 1}, {0, FAR[0]}, {0, FAR[1]}};
        String before = Seen.of(x);
        for (int[] o : outside) {
            Checks.due("search(" + o[0] + ", " + o[1] + ")", search(x, "x", o[0], o[1]), IntegerHouse.OUTSIDE);
        }
        Checks.due("what is refused changes nothing", Seen.of(x), before);
        // five nodes by halves: the fifth is the last one
        int[] answers = {2, 2, 2, 2, 1, 1};
        for (int most = 1; most <= 6; most++) {
            Checks.due("search(0, " + most + ")", search(x, "x + y", 0, most), answers[most - 1]);
            Checks.due("nodes", x.best(1), Math.min(most, 5));
        }
        Checks.due("search(0, 100)", search(x, "x + y", 0, 100), 1);
        Checks.due("search(1, 1)", search(x, "x + y", 1, 1), 1);
        Checks.due("search(1, 100)", search(x, "x + y", 1, 100), 1);
        IntegerHouse deep = Checks.house("var x y; claim a = 2 * x - 2 * y = 1 and x >= 0 and x <= 99999;");
        for (int most : new int[] {1, 99, 100}) {
            Checks.due("so many nodes were taken", search(deep, "x", 0, most), 2);
            dueBest(deep, 0, most, 0);
        }
    }

    private static void bestIndex() {
        IntegerHouse x = Checks.house("var x; claim a = x <= 5;");
        for (int what : new int[] {-1, 0, 1, 6, 7, FAR[0], FAR[1]}) {
            Checks.dueThrow("there was none", IndexOutOfBoundsException.class, () -> x.best(what));
        }
        search(x, "x", 0, 1);
        dueBest(x, 5, 1, 0, 5);
        for (int what : new int[] {-1, 7, 8, FAR[0], FAR[1]}) {
            Checks.dueThrow("best(" + what + ")", IndexOutOfBoundsException.class, () -> x.best(what));
        }
    }

    private static void bestToldLast() {
        IntegerHouse x = Checks.rows(41);
        Checks.due("HARD", search(x, "x", 0, 1), IntegerHouse.HARD);
        Checks.dueThrow("of one that was not HARD", IndexOutOfBoundsException.class, () -> x.best(1));
        for (int c = 0; c < x.count(1); c++) {
            x.on(c, false);
        }
        Checks.read(x, "claim last = x = 3 and y = 4;");
        Checks.due("search", search(x, "x + y", 0, 1), 1);
        for (int c = 0; c < x.count(1); c++) {
            x.on(c, true);
        }
        Checks.due("HARD", search(x, "x", 0, 1), IntegerHouse.HARD);
        dueBest(x, 7, 1, 0, 3, 4);
        Checks.due("OUTSIDE", search(x, "x", 0, 0), IntegerHouse.OUTSIDE);
        Checks.due("relaxed is another call", relax(x, "x"), IntegerHouse.HARD);
        dueBest(x, 7, 1, 0, 3, 4);
        IntegerHouse y = Checks.house("var x; claim a = x = 3;");
        Checks.due("search", search(y, "x", 0, 1), 1);
        Checks.read(y, "claim b = x = 4;");
        Checks.due("no points", search(y, "x", 0, 1), 0);
        dueBest(y, 0, 1, 0, 0);
    }

    /** If it was STUCK, or nodes were used up, the best one so far is told. */
    private static void bestSoFar() {
        IntegerHouse x = Checks.house("var x y; claim a = 2 * x + 2 * y <= 7 and x >= 0 and y >= 0;");
        long[][] want = {{0, 1, 0}, {0, 2, 0}, {3, 3, 0, 0, 3}, {3, 4, 0, 0, 3}, {3, 5, 0, 0, 3}};
        for (int most = 1; most <= 5; most++) {
            search(x, "x + y", 0, most);
            dueBest(x, want[most - 1]);
        }
        // not above the best one so far, rounded down: done, though 7 / 2 is above 3
        Checks.due("a negative one", search(x, "x + y - 9", 0, 100), 1);
        dueBest(x, -6, 5, 0, 0, 3);
    }

    private static void wayOfHalves() {
        // -7 / 2 is rounded down to -4, up to -3
        IntegerHouse x = Checks.house("var x; claim a = 2 * x <= -7 and x >= -9;");
        Checks.due("search", search(x, "x", 0, 100), 1);
        dueBest(x, -4, 3, 0, -4);
        Checks.due("at most -4 is taken first", search(x, "x", 0, 2), 2);
        dueBest(x, -4, 2, 0, -4);
        // the first variable that is not whole
        IntegerHouse y = Checks.house("var x y; claim a = x = 1 and 2 * y <= 5 and y >= 0;");
        Checks.due("search", search(y, "y", 0, 2), 2);
        dueBest(y, 2, 2, 0, 1, 2);
        IntegerHouse z = Checks.house("var x y; claim a = 2 * x <= 5 and 2 * y <= 5 and x >= 0 and y >= 0;");
        Checks.due("x first, then y", search(z, "x + y", 0, 3), 2);
        dueBest(z, 4, 3, 0, 2, 2);
    }

    /** By way 1 a node has three cuts, then it is halved. */
    private static void threeCuts() {
        IntegerHouse x = Checks.house("var x y z w;claim a = -16*x - 13*y + 11*z - 16*w = 19 and x >= -7 and x <= 9 and y >= -3 and y <= 7"
            + " and z >= -9 and z <= 8 and w >= -6 and w <= 5;");
        IntegerHouse plain = Checks.house("var x y; claim a = 20 * x - 19 * y = 1 and x >= 2 and x <= 18 and y >= 0;");
        Checks.due("no whole points", search(plain, "x", 0, 100), search(plain, "x", 1, 100));
        Model model = new Model();
        String text = "var x y z w;claim a = -16*x - 13*y + 11*z - 16*w = 19 and x >= -7 and x <= 9 and y >= -3 and y <= 7"
            + " and z >= -9 and z <= 8 and w >= -6 and w <= 5;";
        Checks.tape(model, text);
        Checks.due("read", model.read(), 1);
        for (int most = 1; most <= 12; most++) {
            Checks.tape(model, "5*x - 3*y + 7*z - 2*w");
            Checks.due("search(1, " + most + ")", search(x, "5*x - 3*y + 7*z - 2*w", 1, most), model.search(1, most));
            for (int k = 0; k < 7; k++) {
                Checks.due("best(" + k + ")", x.best(k), model.best(k));
            }
            Checks.due("at most three cuts a node", x.best(2) <= 3 * x.best(1) ? 1 : 0, 1);
        }
        Checks.due("search(1, 1)", search(x, "5*x - 3*y + 7*z - 2*w", 1, 1), 2);
        Checks.due("three cuts were made", x.best(2), 3);
    }

    /** A cut with a factor of 200 comes, one of 201 would come: STUCK. The plain model has the same numbers. */
    private static void cutFactors() {
        IntegerHouse x = Checks.house("var x y z w;claim a = -2*x + 15*y + 6*z + 11*w = 195 and -5*x + 8*y + 8*z + 20*w <= 165"
            + " and 6*x + 17*y + 18*z - 4*w = 134 and 13*x + 16*y - 13*z + 17*w <= 3 and x >= -91 and x <= 42 and y >= -87 and y <= 87"
            + " and z >= -60 and z <= 54 and w >= -56 and w <= 85;");
        Checks.due("200", search(x, "-2*x - 18*y - 20*z - 16*w", 1, 100), 1);
        dueBest(x, 632, 47, 91, -58, 56, -37, -49);
        IntegerHouse y = Checks.house("var x y z w;claim a = -6*x - 13*y - 9*z - 11*w <= 169 and -9*x - 19*y - 9*z + 5*w = 65"
            + " and 8*x + 10*y - 17*z + 9*w = 2 and -2*x - 4*y - 19*z + 15*w <= 7 and x >= -89 and x <= 37 and y >= -88 and y <= 31"
            + " and z >= -89 and z <= 55 and w >= -6 and w <= 66;");
        Checks.due("201", search(y, "15*x - 9*y - 1*z + 7*w", 1, 100), 3);
        dueBest(y, 0, 6, 16);
        Checks.due("before it", search(y, "15*x - 9*y - 1*z + 7*w", 1, 5), 2);
        dueBest(y, 0, 5, 15);
        IntegerHouse z = Checks.house("var x y z w;claim a = 5*x - 8*y + 18*z + 11*w = 68 and -13*x + 10*y + 4*z + 6*w = 126"
            + " and 20*x - 18*y - 7*z + 12*w <= 118 and x >= -10 and x <= 84 and y >= -11 and y <= 47 and z >= -94 and z <= 50"
            + " and w >= -6 and w <= 78;");
        Checks.due("201", search(z, "16*x - 10*y - 6*z + 3*w", 1, 100), 3);
        dueBest(z, 0, 8, 23);
    }

    /** A cut whose c would be 100803936: STUCK. The plain model has the same numbers. */
    private static void cutNumbers() {
        IntegerHouse x = Checks.house("var x y z w;claim a = x <= 84780 and 2*w <= 18*x + 7 and y <= 19*w + 22 and z <= 18*y - 52"
            + " and x >= -16 and y >= -39 and z >= -55 and w >= -34 and -15*x + 20*y - 8*z + 20*w <= 93239 and -2*w <= 64311"
            + " and -2*y <= 7632;");
        Checks.due("above 10^8", search(x, "20*y - 8*w", 1, 100), 3);
        dueBest(x, 0, 11, 32);
        Checks.due("before it", search(x, "20*y - 8*w", 1, 10), 2);
        dueBest(x, 0, 10, 30);
    }

    /** Both halves are looked at ahead: c is at most 10^8 in size. */
    private static void halfNumbers() {
        String chain = " and y <= 20 * z and z <= 20 * w and w <= 25000 and y >= 0 and z >= 0 and w >= 0";
        // x is 10^7 times 10 and a bit: what is rounded down, and up
        int[] more = {-3, -1, 1, 3};
        int[] answers = {2, 2, 3, 3};
        for (int k = 0; k < 4; k++) {
            String bit = more[k] < 0 ? " - " + -more[k] : " + " + more[k];
            IntegerHouse x = Checks.house("var x y z w; claim a = 2 * x <= 20 * y" + bit + " and x >= 0" + chain + ";");
            Checks.due("half of 20 * 10^7" + bit, search(x, "x", 0, 1), answers[k]);
            dueBest(x, 0, 1, 0);
            IntegerHouse y = Checks.house("var x y z w; claim a = -2 * x <= 20 * y" + bit + " and x <= 0" + chain + ";");
            Checks.due("half of -20 * 10^7" + bit, search(y, "-x", 0, 1), answers[k]);
            dueBest(y, 0, 1, 0);
        }
        // -10^8 and -10^8 - 1: the second is too great; 10^8 itself is whole
        IntegerHouse z = Checks.house("var x y z w; claim a = x <= 10 * y and x >= 0" + chain + ";");
        Checks.due("10^8", search(z, "x", 0, 1), 1);
        dueBest(z, 100000000, 1, 0, 100000000, 10000000, 500000, 25000);
        IntegerHouse w = Checks.house("var x y z w; claim a = x <= 20 * y and x >= 0" + chain + ";");
        Checks.due("values may be greater", search(w, "x", 0, 1), 1);
        dueBest(w, 200000000, 1, 0, 200000000, 10000000, 500000, 25000);
        Checks.due("a term's, too", search(w, "20 * x + 20 * y", 1, 1), 1);
        Checks.due("best(0)", w.best(0), 4200000000L);
        Checks.due("relaxed", relax(w, "20 * x + 20 * y + 20 * z + 20 * w"), 1);
        dueFractions(w, 4210500000L, 1, 200000000, 1, 10000000, 1, 500000, 1, 25000, 1);
    }

    private static void noEnd() {
        IntegerHouse x = Checks.house("var x y; claim a = x <= 5;");
        Checks.due("y has no least one", search(x, "x", 0, 100), 3);
        dueBest(x, 0, 1, 0);
        Checks.due("the term has no end", search(x, "-x", 1, 100), 3);
        dueBest(x, 0, 1, 0);
        Checks.due("a number alone", search(x, "5", 0, 100), 3);
        IntegerHouse none = Checks.house("var x;");
        Checks.due("no rows", search(none, "0", 0, 100), 3);
        // rows without points go before what has no end
        IntegerHouse y = Checks.house("var x y; claim a = x <= 5 and x >= 6;");
        Checks.due("no points", search(y, "y", 0, 100), 0);
    }

    /** Rows of factors that are all 20 or nearly so: numbers on the way are the greatest. Against the plain model. */
    private static void greatNumbers() {
        String[][] problems = {
            {"20*x - 19*y + 20*z - 20*w = 465 and -20*x - 20*y - 20*z - 20*w = 768 and 20*x - 20*y - 20*z + 20*w <= 750"
                + " and -20*x - 20*y + 20*z + 20*w <= 87192 and -20*x + 20*y + 20*z - 20*w <= 26 and y >= -3051 and y <= 8386 and w <= 4431",
                "20*x - 20*y - 20*z + 20*w"},
            {"-20*x + 17*y + 17*z - 15*w <= 72519 and 20*x - 19*y + 19*z - 20*w <= 330 and -15*x + 20*y + 15*z + 14*w = 10"
                + " and -17*x - 19*y - 15*z - 19*w <= 10097 and 20*x + 17*y - 16*z - 19*w <= 364 and y >= -6507 and y <= 3758 and z >= -4731",
                "20*x - 20*y - 20*z - 20*w"},
            {"20*x - 19*y + 19*z + 20*w <= 396 and 20*x + 20*y + 20*z - 20*w <= 129 and 20*x - 20*y + 19*z - 20*w <= 978"
                + " and 20*x - 20*y - 20*z + 19*w <= 324 and 20*x + 19*y + 19*z - 19*w <= 694 and z <= 8398", "19*x + 18*z - 7*w"},
            {"20*x + 20*y + 20*z + 20*w <= 99999 and 20*x - 20*y + 20*z - 20*w <= 99999 and 20*x + 20*y - 20*z - 20*w <= 99998"
                + " and 20*x - 20*y - 20*z + 20*w <= 99997 and x >= -99999 and y >= -99999 and z >= -99999 and w >= -99999",
                "20*x + 19*y + 19*z - 20*w"}};
        for (String[] problem : problems) {
            String text = "var x y z w;claim a = " + problem[0] + ";";
            IntegerHouse x = Checks.house(text);
            Model model = new Model();
            Checks.tape(model, text);
            Checks.due("read", model.read(), 1);
            Checks.tape(model, problem[1]);
            Checks.due("relaxed of " + problem[1], relax(x, problem[1]), model.relaxed());
            for (int k = 0; k < 10; k++) {
                Checks.due("fraction(" + k + ")", x.fraction(k), model.fraction(k));
            }
            for (int way = 0; way < 2; way++) {
                Checks.tape(model, problem[1]);
                Checks.due("search of " + problem[1], search(x, problem[1], way, 30), model.search(way, 30));
                for (int k = 0; k < 7; k++) {
                    Checks.due("best(" + k + ")", x.best(k), model.best(k));
                }
            }
        }
    }

    private static void refused() {
        IntegerHouse x = Checks.house("var x; claim a = 3 * x <= 8 and x >= 0;");
        relax(x, "x");
        search(x, "x", 1, 100);
        String told = Seen.told(x);
        int acts = x.count(7);
        relax(x, "!");
        search(x, "x", 0, 101);
        x.push();
        x.cut(0, 0);
        x.sync();
        Checks.tape(x, "x");
        x.relaxed();
        x.search(0, 1);
        Checks.due("what was told stays", Seen.told(x), told);
        x.start();
        Checks.due("behind start(), too", Seen.told(x), told);
        Checks.due("they are no acts", acts, 1);
    }
}
