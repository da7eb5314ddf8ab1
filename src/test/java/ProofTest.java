/** Promises 40 and 41: proofs. */
final class ProofTest {
    public static void main(String[] args) {
        proofs();
        lines();
        grammar();
        wrongOf();
        wrongSums();
        wrongCases();
        known();
        limits();
        Checks.finish();
    }

    private static IntegerHouse house() {
        return Checks.house("var x y; claim a = 2 * x + 4 * y >= 3 and true and 2 * x + 4 * y <= 3; claim b = x <= 1 or x >= 5;"
            + "claim c = 1 < 2 and y >= 7; claim d = 5 < 3; claim e = a and y <= 0;");
    }

    private static void dueProve(IntegerHouse x, String text, int answer) {
        Checks.tape(x, text);
        Checks.due("prove of " + text, x.prove(), answer);
        Checks.due("count(4)", x.count(4), 0);
    }

    private static void dueWrong(IntegerHouse x, String text, int kind, int place) {
        dueProve(x, text, -1000 - place);
        Checks.due("fault of " + text, x.fault(), kind);
    }

    private static void dueLine(IntegerHouse x, int i, long... numbers) {
        for (int v = 0; v < 5; v++) {
            int k = v;
            Checks.due("line(" + i + ", " + v + ")", x.line(i, k), numbers[v]);
        }
    }

    private static void proofs() {
        IntegerHouse x = house();
        dueProve(x, "of a 1; cut 1 2; of a 2; cut 3 2; sum 1 2 1 4;", 1);
        dueLine(x, 1, -2, -4, 0, 0, -3);
        dueLine(x, 2, -1, -2, 0, 0, -2);
        dueLine(x, 3, 2, 4, 0, 0, 3);
        dueLine(x, 4, 1, 2, 0, 0, 1);
        dueLine(x, 5, 0, 0, 0, 0, -1);
        dueProve(x, "of a 1; cut 1 2; of a 2; cut 3 2; sum 1 2 1 4; of a 1;", 0);
        dueProve(x, "", 0);
        dueProve(x, " \n ", 0);
        dueProve(x, "of c 1; of e 3; sum 1 1 1 2;", 1);
        // 2 x = 3 by cases; the fault of 2 y + .. is none: y is in no row
        IntegerHouse y = Checks.house("var x y; claim a = 2 * x >= 3 and 2 * x <= 3;");
        dueProve(y, "case x 1; of a 1; sum 2 1 1 2; else; of a 2; sum 2 4 1 5; done;", 1);
        dueLine(y, 1, 1, 0, 0, 0, 1);
        dueLine(y, 3, 0, 0, 0, 0, -1);
        dueLine(y, 4, -1, 0, 0, 0, -2);
        dueLine(y, 6, 0, 0, 0, 0, -1);
        dueLine(y, 7, 0, 0, 0, 0, -1);
        dueProve(y, "case x 1; of a 1; sum 2 1 1 2; else; of a 2; sum 2 4 1 5;", 0);
        dueProve(y, "case x 1; of a 1; sum 2 1 1 2;", 0);
        dueProve(y, "case x - 5; of a 1; sum 2 1 1 2;", 0);
        dueLine(y, 1, 1, 0, 0, 0, -5);
        dueProve(y, "case x -000005; of a 1; sum 2 1 1 2; else;", 0);
        dueLine(y, 4, -1, 0, 0, 0, 4);
        Checks.due("fault", y.fault(), 0);
    }

    private static void lines() {
        IntegerHouse x = house();
        Checks.dueThrow("line(1, 0)", IndexOutOfBoundsException.class, () -> x.line(1, 0));
        dueProve(x, "of a 1; sum 3 1 0 1; sum 000 1 5 1;", 0);
        dueLine(x, 2, -6, -12, 0, 0, -9);
        dueLine(x, 3, -10, -20, 0, 0, -15);
        Checks.dueThrow("line(0, 0)", IndexOutOfBoundsException.class, () -> x.line(0, 0));
        Checks.dueThrow("line(4, 0)", IndexOutOfBoundsException.class, () -> x.line(4, 0));
        Checks.dueThrow("line(1, 5)", IndexOutOfBoundsException.class, () -> x.line(1, 5));
        Checks.dueThrow("line(1, -1)", IndexOutOfBoundsException.class, () -> x.line(1, -1));
        dueWrong(x, "of a 2; of a 9; of a 1;", 5, 8);
        dueLine(x, 1, 2, 4, 0, 0, 3);
        Checks.dueThrow("line(2, 0)", IndexOutOfBoundsException.class, () -> x.line(2, 0));
        dueWrong(x, "of", 2, 2);
        Checks.dueThrow("line(1, 0)", IndexOutOfBoundsException.class, () -> x.line(1, 0));
    }

    private static void grammar() {
        IntegerHouse x = house();
        dueWrong(x, ";", 2, 0);
        dueWrong(x, "a", 2, 0);
        dueWrong(x, "var", 2, 0);
        dueWrong(x, "of 1 a;", 2, 3);
        dueWrong(x, "of of 1;", 2, 3);
        dueWrong(x, "of var 1;", 2, 3);
        dueWrong(x, "of divides 1;", 2, 3);
        dueWrong(x, "of a;", 2, 4);
        dueWrong(x, "of a 1", 2, 6);
        dueWrong(x, "of a 1 1;", 2, 7);
        dueWrong(x, "of nope", 2, 7);
        dueWrong(x, "of nope 1 ?;", 1, 10);
        dueWrong(x, "of a -1;", 2, 5);
        dueWrong(x, "sum 1 1 1;", 2, 9);
        dueWrong(x, "sum 1 1 1 1 1;", 2, 12);
        dueWrong(x, "sum 1 1 -1 1;", 2, 8);
        dueWrong(x, "cut 1;", 2, 5);
        dueWrong(x, "cut 1 1234567;", 1, 6);
        dueWrong(x, "case x;", 2, 6);
        dueWrong(x, "case 5 x;", 2, 5);
        dueWrong(x, "case else 5;", 2, 5);
        dueWrong(x, "case x - - 5;", 2, 9);
        dueWrong(x, "case x 5 else;", 2, 9);
        dueWrong(x, "else 5;", 2, 5);
        dueWrong(x, "done", 2, 4);
        dueWrong(x, "of a 1; of a 2 of", 2, 15);
        dueWrong(x, "of a 1; #", 1, 8);
        dueWrong(x, "abcdefghi", 1, 0);
        // a whole line is looked at before it is done; earlier lines are done before
        dueWrong(x, "of a 9; ?", 5, 0);
        dueWrong(x, "of a 9 ?", 1, 7);
    }

    private static void wrongOf() {
        IntegerHouse x = house();
        dueWrong(x, " of nope 1;", 5, 1);
        dueWrong(x, " of x 1;", 5, 1);
        dueWrong(x, " of a 0;", 5, 1);
        dueWrong(x, " of a 3;", 5, 1);
        dueWrong(x, " of b 1;", 5, 1);
        dueWrong(x, " of d 1;", 5, 1);
        dueProve(x, "of c 1;", 0);
        dueLine(x, 1, 0, -1, 0, 0, -7);
        dueProve(x, "of e 3;", 0);
        dueLine(x, 1, 0, 1, 0, 0, 0);
        dueProve(x, "of e 2;", 0);
        x.on(2, false);
        dueWrong(x, "of c 1;", 5, 0);
        // claims may bear names that no proof can tell
        Checks.read(x, "claim sum = x < 1; claim cut = y < 1;");
        dueWrong(x, "of sum 1;", 2, 3);
    }

    private static void wrongSums() {
        IntegerHouse x = house();
        dueWrong(x, "sum 1 1 1 1;", 5, 0);
        dueWrong(x, "of a 1; sum 1 1 1 2;", 5, 8);
        dueWrong(x, "of a 1; sum 1 2 1 1;", 5, 8);
        dueWrong(x, "of a 1; sum 1 0 1 1;", 5, 8);
        dueWrong(x, "of a 1; sum 1 1 1 0;", 5, 8);
        dueWrong(x, "of a 1; cut 1 0;", 5, 8);
        dueWrong(x, "of a 1; cut 2 1;", 5, 8);
        dueWrong(x, "of a 1; cut 0 1;", 5, 8);
        dueWrong(x, "of a 1; cut 1 4;", 5, 8);
        dueWrong(x, "of a 1; cut 1 3;", 5, 8);
        dueProve(x, "of a 1; cut 1 1;", 0);
        dueProve(x, "of a 1; sum 0 1 0 1; cut 2 999999; of d 1;", -1000 - 35);
        dueLine(x, 3, 0, 0, 0, 0, 0);
        // 10^12 in size is not too great
        IntegerHouse y = Checks.house("var x; claim a = x <= 1 and -x <= -1 and 1000 * x <= 1000 * x; claim b = 10 * x <= 99;");
        dueProve(y, "of a 1; sum 500000 1 500000 1; sum 500000 2 500000 2;", 0);
        dueLine(y, 3, 1000000000000L, 0, 0, 0, 1000000000000L);
        dueWrong(y, "of a 1; sum 500000 1 500000 1; sum 500000 2 500000 2; sum 1 3 1 1;", 5, 54);
        dueProve(y, "of a 2; sum 500000 1 500000 1; sum 500000 2 500000 2;", 0);
        dueWrong(y, "of a 2; sum 500000 1 500000 1; sum 500000 2 500000 2; sum 1 3 1 1;", 5, 54);
        dueWrong(y, "of a 1; sum 999999 1 999999 1; sum 999999 2 999999 2;", 5, 31);
        dueProve(y, "of b 1; cut 1 10;", 0);
        dueLine(y, 2, 1, 0, 0, 0, 9);
    }

    private static void wrongCases() {
        IntegerHouse x = house();
        dueWrong(x, " case a 1;", 5, 1);
        dueWrong(x, " case nope 1;", 5, 1);
        dueWrong(x, " else;", 5, 1);
        dueWrong(x, " done;", 5, 1);
        dueWrong(x, "case x 1; else;", 5, 10);
        dueWrong(x, "case x 1; done;", 5, 10);
        // 0 <= 0 is not FALSE
        dueWrong(x, "case x 1; of a 1; sum 0 1 0 1; else;", 5, 31);
        dueProve(x, "of a 1; sum 0 1 0 1;", 0);
        IntegerHouse y = Checks.house("var x y; claim a = 2 * x >= 3 and 2 * x <= 3; claim z = x <= 0 and x >= 1;");
        String first = "case x 1; of a 1; sum 2 1 1 2;";
        dueWrong(y, first + "done;", 5, 30);
        dueWrong(y, first + "else; else;", 5, 36);
        dueWrong(y, first + "else; done;", 5, 36);
        dueWrong(y, first + "else; of a 2; sum 2 4 1 5; else;", 5, 57);
        dueWrong(y, first + "else; of a 2; sum 2 4 1 5; of a 1; done;", 5, 65);
        dueProve(y, first + "else; of a 2; sum 2 4 1 5; done; of a 1;", 0);
        dueWrong(y, first + "else; of a 2; sum 2 4 1 5; done; done;", 5, 63);
        // the latest open case is the inner one
        String inner = "case y 5; case x 1; of a 1; sum 2 2 1 3; else; of a 2; sum 2 5 1 6; done;";
        dueProve(y, inner + "else; of z 1; of z 2; sum 1 10 1 11; done;", 1);
        dueProve(y, inner, 0);
    }

    private static void known() {
        IntegerHouse y = Checks.house("var x y; claim a = 2 * x >= 3 and 2 * x <= 3;");
        String first = "case x 1; of a 1; sum 2 1 1 2;";
        dueWrong(y, first + "else; sum 1 1 1 4;", 5, 36);
        dueWrong(y, first + "else; sum 1 4 1 3;", 5, 36);
        dueWrong(y, first + "else; cut 2 1;", 5, 36);
        dueProve(y, first + "else; sum 1 4 1 4;", 0);
        Checks.due("lines that are known no more are told", y.line(1, 4), 1);
        String whole = "of a 1; case x 1; of a 1; sum 2 2 1 3; else; of a 2; sum 2 5 1 6; done;";
        dueProve(y, whole + "sum 1 1 1 8;", 0);
        dueWrong(y, whole + "sum 1 1 1 7;", 5, whole.length());
        dueWrong(y, whole + "cut 2 1;", 5, whole.length());
        dueWrong(y, whole + "cut 5 1;", 5, whole.length());
        // known lines do not stay for the next proof
        dueWrong(y, "cut 1 1;", 5, 0);
    }

    private static void limits() {
        IntegerHouse y = Checks.house("var x y; claim a = 2 * x >= 3 and 2 * x <= 3;");
        dueProve(y, "of a 1;" + Checks.repeat("cut 1 1;", 199), 0);
        Checks.due("line(200, 4)", y.line(200, 4), -3);
        dueWrong(y, "of a 1;" + Checks.repeat("cut 1 1;", 200), 5, 7 + 8 * 199);
        Checks.due("line(200, 4)", y.line(200, 4), -3);
        dueWrong(y, "of a 1;" + Checks.repeat("cut 1 1;", 199) + "cut 1", 2, 7 + 8 * 199 + 5);
        dueProve(y, Checks.repeat("case x 1;", 20), 0);
        dueWrong(y, Checks.repeat("case x 1;", 21), 5, 180);
        StringBuilder deep = new StringBuilder(Checks.repeat("case x 1;", 20));
        deep.append("of a 1;sum 2 20 1 21;");
        deep.append("else;of a 2;sum 2 23 1 24;done;");
        // done closed one: another may come
        dueProve(y, deep + "else;case x 3;", 0);
        dueWrong(y, deep + "else;case x 3;case x 4;", 5, deep.length() + 14);
    }
}
