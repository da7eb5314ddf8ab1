/** Promises 40 and 41 and the document's part 7: each limit, the one beyond it, each wrong line. */
final class ProofEdgesTest {
    private static final int[] FAR = {Integer.MIN_VALUE, Integer.MAX_VALUE};

    public static void main(String[] args) {
        empty();
        atoms();
        atomsOfClaims();
        names();
        sums();
        cuts();
        great();
        cases();
        caseNumbers();
        ends();
        known();
        lines();
        deep();
        tokens();
        wholeLines();
        toldLines();
        lineIndex();
        refused();
        Checks.finish();
    }

    private static IntegerHouse house() {
        return Checks.house("var x y z w; claim a = 2 * x >= 3 and true and 2 * x <= 3 and 1 < 2; claim b = x <= 1 or x >= 5;"
            + "claim c = y = 7 and z < w; claim f = x < x;");
    }

    private static void dueProve(IntegerHouse x, String text, int answer) {
        int was = x.fault();
        Checks.tape(x, text);
        Checks.due("prove of " + text, x.prove(), answer);
        Checks.due("the tape is used up", x.count(4), 0);
        Checks.due("no FAULT", x.fault(), was);
    }

    private static void dueWrong(IntegerHouse x, String text, int kind, int place) {
        Checks.read(x, kind == 3 ? "!" : "claim a = true;");
        Checks.tape(x, text);
        Checks.due("prove of " + text, x.prove(), -1000 - place);
        Checks.due("fault of " + text, x.fault(), kind);
        Checks.due("the tape is used up", x.count(4), 0);
    }

    private static void dueLine(IntegerHouse x, int i, long... numbers) {
        for (int v = 0; v < 5; v++) {
            Checks.due("line(" + i + ", " + v + ")", x.line(i, v), numbers[v]);
        }
    }

    private static void empty() {
        IntegerHouse x = new IntegerHouse();
        dueProve(x, "", 0);
        dueProve(x, " ", 0);
        dueProve(x, Checks.repeat("\n", 2000), 0);
        Checks.dueThrow("line(1, 0)", IndexOutOfBoundsException.class, () -> x.line(1, 0));
        dueWrong(x, Checks.repeat(" ", 1999) + ";", 2, 1999);
    }

    /** From 1 on, as many as there are. */
    private static void atoms() {
        IntegerHouse x = house();
        dueWrong(x, " of a 0;", 5, 1);
        dueProve(x, " of a 1;", 0);
        dueLine(x, 1, -2, 0, 0, 0, -3);
        dueProve(x, " of a 2;", 0);
        dueLine(x, 1, 2, 0, 0, 0, 3);
        dueWrong(x, " of a 3;", 5, 1);
        dueWrong(x, " of a 999999;", 5, 1);
        dueProve(x, "of c 1; of c 2; of c 000003;", 0);
        dueLine(x, 1, 0, 1, 0, 0, 7);
        dueLine(x, 2, 0, -1, 0, 0, -7);
        dueLine(x, 3, 0, 0, 1, -1, -1);
        dueWrong(x, "of c 4;", 5, 0);
        StringBuilder text = new StringBuilder("claim k = x <= 0");
        for (int k = 1; k < 24; k++) {
            text.append(" and x <= ").append(k);
        }
        Checks.due("24 atoms", Checks.read(x, text + ";"), 1);
        dueProve(x, "of k 24;", 0);
        dueLine(x, 1, 1, 0, 0, 0, 23);
        dueWrong(x, "of k 25;", 5, 0);
    }

    /** Of a plain claim that is on. */
    private static void atomsOfClaims() {
        IntegerHouse x = house();
        dueWrong(x, "of b 1;", 5, 0);
        dueWrong(x, "of f 1;", 5, 0);
        x.on(0, false);
        dueWrong(x, "of a 1;", 5, 0);
        x.on(0, true);
        dueProve(x, "of a 1;", 0);
        x.push();
        Checks.read(x, "claim g = a and c;");
        dueProve(x, "of g 5;", 0);
        dueLine(x, 1, 0, 0, 1, -1, -1);
        x.pop();
        dueWrong(x, "of g 5;", 5, 0);
    }

    private static void names() {
        IntegerHouse x = house();
        dueWrong(x, "of nope 1;", 5, 0);
        dueWrong(x, "of x 1;", 5, 0);
        dueWrong(x, "case nope 1;", 5, 0);
        dueWrong(x, "case a 1;", 5, 0);
        for (String word : new String[] {"of", "sum", "cut", "case", "else", "done", "var", "claim", "and", "or", "not", "true", "false", "abs",
            "min", "max", "div", "mod", "divides", "if"}) {
            dueWrong(x, "of " + word + " 1;", 2, 3);
            dueWrong(x, "case " + word + " 1;", 2, 5);
        }
        dueWrong(x, "of abcdefghi 1;", 1, 3);
        dueWrong(x, "case 1 1;", 2, 5);
        dueWrong(x, "of ; 1;", 2, 3);
        // names that are other words there cannot be told
        IntegerHouse y = Checks.house("var done; claim sum = done < 1; claim of = done > 1;");
        dueWrong(y, "of sum 1;", 2, 3);
        dueWrong(y, "of of 1;", 2, 3);
        dueWrong(y, "case done 1;", 2, 5);
    }

    private static void sums() {
        IntegerHouse x = house();
        String two = "of a 1; of c 3; ";
        dueProve(x, two + "sum 3 1 2 2;", 0);
        dueLine(x, 3, -6, 0, 2, -2, -11);
        dueProve(x, two + "sum 0 1 0 2;", 0);
        dueLine(x, 3, 0, 0, 0, 0, 0);
        dueProve(x, two + "sum 1 2 1 2;", 0);
        String[] wrong = {"sum 1 0 1 1;", "sum 1 1 1 0;", "sum 1 3 1 1;", "sum 1 1 1 3;", "sum 0 4 0 1;", "sum 1 1 0 999999;"};
        for (String line : wrong) {
            dueWrong(x, two + line, 5, two.length());
        }
        dueWrong(x, "sum 1 1 1 1;", 5, 0);
        // two lines that speak against one another
        dueProve(x, "of a 1; of a 2; cut 1 2; cut 2 2; sum 1 3 1 4;", 1);
        dueLine(x, 3, -1, 0, 0, 0, -2);
        dueLine(x, 4, 1, 0, 0, 0, 1);
        dueLine(x, 5, 0, 0, 0, 0, -1);
        dueProve(x, "of a 1; of a 2; sum 1 1 1 2;", 0);
        dueLine(x, 3, 0, 0, 0, 0, 0);
    }

    private static void cuts() {
        IntegerHouse x = Checks.house("var x y; claim a = 12 * x - 18 * y <= 7 and 12 * x - 18 * y >= 7; claim b = 7 * x <= 5;");
        int[] divides = {1, 2, 3, 6};
        for (int n : divides) {
            dueProve(x, "of a 1; of a 2; cut 1 " + n + "; cut 2 " + n + ";", 0);
            dueLine(x, 3, 12 / n, -18 / n, 0, 0, Math.floorDiv(7, n));
            dueLine(x, 4, -12 / n, 18 / n, 0, 0, Math.floorDiv(-7, n));
        }
        for (int n : new int[] {0, 4, 5, 9, 12, 18, 36, 999999}) {
            dueWrong(x, "of a 1; cut 1 " + n + ";", 5, 8);
        }
        dueWrong(x, "of a 1; cut 0 1;", 5, 8);
        dueWrong(x, "of a 1; cut 2 1;", 5, 8);
        dueProve(x, "of b 1; cut 1 7; sum 0 1 0 1; cut 3 999999;", 0);
        dueLine(x, 2, 1, 0, 0, 0, 0);
        dueLine(x, 4, 0, 0, 0, 0, 0);
        // 0 <= -7 by 999999 is 0 <= -1
        IntegerHouse y = Checks.house("var x; claim a = x <= 0 and x >= 7;");
        dueProve(y, "of a 1; of a 2; sum 1 1 1 2; cut 3 999999;", 1);
        dueLine(y, 3, 0, 0, 0, 0, -7);
        dueLine(y, 4, 0, 0, 0, 0, -1);
    }

    /** 10^12 in size is taken, more is not: of a factor, or c, on either side. */
    private static void great() {
        IntegerHouse x = Checks.house("var x y; claim a = x <= 0 and -x <= 0 and y <= 1 and y <= -1 and x + y <= 0;");
        String[] to12 = {"of a 1; sum 500000 1 500000 1; sum 500000 2 500000 2;", "of a 2; sum 500000 1 500000 1; sum 500000 2 500000 2;",
            "of a 3; sum 500000 1 500000 1; sum 500000 2 500000 2;", "of a 4; sum 500000 1 500000 1; sum 500000 2 500000 2;"};
        long all = 1000000000000L;
        long[][] rows = {{all, 0, 0, 0, 0}, {-all, 0, 0, 0, 0}, {0, all, 0, 0, all}, {0, all, 0, 0, -all}};
        for (int k = 0; k < 4; k++) {
            dueProve(x, to12[k], 0);
            dueLine(x, 3, rows[k]);
            dueWrong(x, to12[k] + "sum 1 3 1 1;", 5, to12[k].length());
            dueLine(x, 3, rows[k]);
            dueProve(x, to12[k] + "sum 1 3 0 1;", 0);
            dueWrong(x, to12[k] + "sum 999999 3 999999 3;", 5, to12[k].length());
            dueWrong(x, to12[k] + "sum 2 3 0 1;", 5, to12[k].length());
        }
        // 999999 * 1000001 is 10^12 less 1
        dueProve(x, "of a 1; sum 999999 1 2 1; sum 999999 2 1 1;", 0);
        dueLine(x, 3, all, 0, 0, 0, 0);
        dueWrong(x, "of a 1; sum 999999 1 2 1; sum 999999 2 2 1;", 5, 26);
    }

    private static void cases() {
        IntegerHouse x = house();
        dueProve(x, "case x 0;", 0);
        dueLine(x, 1, 1, 0, 0, 0, 0);
        dueProve(x, "case w 999999;", 0);
        dueLine(x, 1, 0, 0, 0, 1, 999999);
        dueProve(x, "case z - 999999;", 0);
        dueLine(x, 1, 0, 0, 1, 0, -999999);
        dueProve(x, "case y -0;", 0);
        dueLine(x, 1, 0, 1, 0, 0, 0);
        String first = "case x 1; of a 1; sum 2 1 1 2; ";
        dueProve(x, first, 0);
        dueProve(x, first + "else;", 0);
        dueLine(x, 4, -1, 0, 0, 0, -2);
        String second = first + "else; of a 2; sum 2 4 1 5; ";
        dueProve(x, second, 0);
        dueProve(x, second + "done;", 1);
        dueLine(x, 7, 0, 0, 0, 0, -1);
        dueProve(x, second + "done; of a 1;", 0);
        dueProve(x, second + "done; case x 3;", 0);
    }

    /** The second part: at least that number and 1. */
    private static void caseNumbers() {
        String[] numbers = {"0", "1", "- 1", "999999", "- 999999"};
        long[] second = {-1, -2, 0, -1000000, 999998};
        IntegerHouse x = Checks.house("var x y; claim a = y <= 0 and y >= 1;");
        for (int k = 0; k < numbers.length; k++) {
            dueProve(x, "of a 1; of a 2; case x " + numbers[k] + "; sum 1 1 1 2; else;", 0);
            dueLine(x, 5, -1, 0, 0, 0, second[k]);
        }
    }

    private static void ends() {
        IntegerHouse x = house();
        dueWrong(x, "else;", 5, 0);
        dueWrong(x, "done;", 5, 0);
        dueWrong(x, "case x 1; else;", 5, 10);
        dueWrong(x, "case x 1; done;", 5, 10);
        String first = "case x 1; of a 1; sum 2 1 1 2; ";
        dueWrong(x, first + "done;", 5, first.length());
        dueWrong(x, first + "of a 1; else;", 5, first.length() + 8);
        dueWrong(x, first + "sum 0 3 0 3; else;", 5, first.length() + 13);
        dueProve(x, first + "sum 1 3 0 3; else;", 0);
        dueWrong(x, first + "else; else;", 5, first.length() + 6);
        dueWrong(x, first + "else; done;", 5, first.length() + 6);
        String second = first + "else; of a 2; sum 2 4 1 5; ";
        dueWrong(x, second + "else;", 5, second.length());
        dueWrong(x, second + "of a 1; done;", 5, second.length() + 8);
        dueWrong(x, second + "done; done;", 5, second.length() + 6);
        dueWrong(x, second + "done; else;", 5, second.length() + 6);
        // the FALSE line of 'done' ends the part that it lies in
        IntegerHouse y = Checks.house("var x y; claim a = 2 * x >= 3 and 2 * x <= 3;");
        String inner = "case x 1; of a 1; sum 2 2 1 3; else; of a 2; sum 2 5 1 6; done; ";
        String outer = "case y 0; " + inner + "else; case x 1; of a 1; sum 2 10 1 11; else; of a 2; sum 2 13 1 14; done; done;";
        dueProve(y, outer, 1);
        dueLine(y, 9, 0, -1, 0, 0, -1);
        dueLine(y, 17, 0, 0, 0, 0, -1);
        // while the inner one is open the outer one cannot end
        dueWrong(y, "case y 0; case x 1; of a 1; sum 2 2 1 3; else; of a 2; sum 2 5 1 6; else;", 5, 68);
    }

    /** Lines of a part that ended are known no more, those of before are. */
    private static void known() {
        IntegerHouse x = house();
        String text = "of a 1; case x 1; of a 1; sum 2 2 1 3; else; of a 2; sum 2 5 1 6; ";
        for (int i = 1; i <= 7; i++) {
            boolean is = i == 1 || i >= 5;
            String line = "sum 1 " + i + " 0 1;";
            if (is) {
                dueProve(x, text + line, 0);
            } else {
                dueWrong(x, text + line, 5, text.length());
            }
        }
        String done = text + "done; ";
        for (int i = 1; i <= 9; i++) {
            boolean is = i == 1 || i == 8;
            for (String line : new String[] {"sum 1 " + i + " 0 1;", "sum 1 1 0 " + i + ";", "cut " + i + " 1;"}) {
                if (is) {
                    dueProve(x, done + line, line.equals("sum 1 8 0 1;") || line.equals("cut 8 1;") ? 1 : 0);
                } else {
                    dueWrong(x, done + line, 5, done.length());
                }
            }
        }
        dueWrong(x, "cut 1 1;", 5, 0);
    }

    private static void lines() {
        IntegerHouse x = house();
        String most = "of a 1;" + Checks.repeat("cut 1 1;", 199);
        dueProve(x, most, 0);
        dueLine(x, 200, -2, 0, 0, 0, -3);
        Checks.dueThrow("line(201, 0)", IndexOutOfBoundsException.class, () -> x.line(201, 0));
        for (String more : new String[] {"cut 1 1;", "of a 1;", "sum 1 1 1 1;", "case x 1;", "else;", "done;"}) {
            dueWrong(x, most + more, 5, most.length());
            dueLine(x, 200, -2, 0, 0, 0, -3);
        }
        dueWrong(x, most + "cut 1 1", 2, most.length() + 7);
        dueWrong(x, most + "cut", 2, most.length() + 3);
        dueWrong(x, most + "!", 1, most.length());
        String closed = "of a 1;" + Checks.repeat("cut 1 1;", 192) + "case x 1;of a 1;sum 2 194 1 195;else;of a 2;sum 2 197 1 198;done;";
        dueProve(x, closed, 1);
        Checks.due("line(200, 4)", x.line(200, 4), -1);
        String over = "of a 1;" + Checks.repeat("cut 1 1;", 193) + "case x 1;of a 1;sum 2 195 1 196;else;of a 2;sum 2 198 1 199;";
        dueWrong(x, over + "done;", 5, over.length());
    }

    private static void deep() {
        IntegerHouse x = house();
        String twenty = Checks.repeat("case y 1;", 20);
        dueProve(x, twenty, 0);
        dueWrong(x, twenty + "case y 1;", 5, 180);
        dueWrong(x, twenty + "case nope 1;", 5, 180);
        dueWrong(x, twenty + "case y", 2, 186);
        // the second part is open, too; behind 'done' there is place again
        String second = twenty + "of a 1;cut 21 2;of a 2;cut 23 2;sum 1 22 1 24;else;";
        dueProve(x, second, 0);
        dueWrong(x, second + "case y 1;", 5, second.length());
        String nineteen = Checks.repeat("case y 1;", 19) + "of a 1;cut 20 2;of a 2;cut 22 2;";
        String one = "case x 1;sum 1 21 1 23;else;sum 1 21 1 23;done;";
        dueProve(x, nineteen + one + one + "case x 1;", 0);
        dueWrong(x, nineteen + one + one + "case x 1;case x 1;", 5, (nineteen + one + one).length() + 9);
    }

    private static void tokens() {
        IntegerHouse x = house();
        String[] firsts = {"a", "x", "nope", "1", ";", "(", "-", "var", "true", "Sum", "ofa"};
        for (String first : firsts) {
            dueWrong(x, first, 2, 0);
            dueWrong(x, first + " a 1;", 2, 0);
            dueWrong(x, "of a 1; " + first, 2, 8);
        }
        String[] bad = {"!", "#", "1234567", "1a", "abcdefghi", "\t"};
        for (String token : bad) {
            dueWrong(x, token, 1, 0);
            dueWrong(x, "of " + token, 1, 3);
            dueWrong(x, "of a " + token, 1, 5);
            dueWrong(x, "of a 1 " + token, 1, 7);
            dueWrong(x, "of a 1; " + token, 1, 8);
            dueWrong(x, "case x - " + token, 1, 9);
        }
        dueWrong(x, "of", 2, 2);
        dueWrong(x, "of a", 2, 4);
        dueWrong(x, "of a 1", 2, 6);
        dueWrong(x, "of a - 1;", 2, 5);
        dueWrong(x, "of a a;", 2, 5);
        dueWrong(x, "of a 1 2;", 2, 7);
        dueWrong(x, "sum 1 2 3;", 2, 9);
        dueWrong(x, "sum 1 2 3 4 5;", 2, 12);
        dueWrong(x, "sum a 1 1 1;", 2, 4);
        dueWrong(x, "sum - 1 1 1 1;", 2, 4);
        dueWrong(x, "cut 1;", 2, 5);
        dueWrong(x, "cut 1 2 3;", 2, 8);
        dueWrong(x, "cut a 1;", 2, 4);
        dueWrong(x, "cut 1 - 1;", 2, 6);
        dueWrong(x, "case x;", 2, 6);
        dueWrong(x, "case x -;", 2, 8);
        dueWrong(x, "case x - - 1;", 2, 9);
        dueWrong(x, "case x + 1;", 2, 7);
        dueWrong(x, "case x 1 2;", 2, 9);
        dueWrong(x, "else 1;", 2, 5);
        dueWrong(x, "done x;", 2, 5);
        dueWrong(x, "of a 1;;", 2, 7);
        dueProve(x, "of a 1;case x -5;sum 1 1 1 1;", 0);
        dueProve(x, "\nof\na\n1\n;\n", 0);
    }

    /** A line is done only with its ';', and before those behind it are looked at. */
    private static void wholeLines() {
        IntegerHouse x = house();
        dueWrong(x, "of nope 1 !", 1, 10);
        dueWrong(x, "of nope 1", 2, 9);
        dueWrong(x, "of nope 1; !", 5, 0);
        dueWrong(x, "else !", 1, 5);
        dueWrong(x, "else; !", 5, 0);
        dueWrong(x, "of a 1; cut 9 9; of", 5, 8);
        dueWrong(x, "of a 1; cut 9 9", 2, 15);
        dueWrong(x, "of a 1; of a 1; of a 9; of a 1;", 5, 16);
    }

    private static void toldLines() {
        IntegerHouse x = house();
        dueProve(x, "of a 1; of a 2; of c 1;", 0);
        dueWrong(x, "of a 2; of c 3; of a 9; of a 1;", 5, 16);
        dueLine(x, 1, 2, 0, 0, 0, 3);
        dueLine(x, 2, 0, 0, 1, -1, -1);
        Checks.dueThrow("line(3, 0)", IndexOutOfBoundsException.class, () -> x.line(3, 0));
        dueWrong(x, "of a 1; of a 2", 2, 14);
        dueLine(x, 1, -2, 0, 0, 0, -3);
        Checks.dueThrow("a line without its ;", IndexOutOfBoundsException.class, () -> x.line(2, 0));
        dueProve(x, "", 0);
        Checks.dueThrow("line(1, 0)", IndexOutOfBoundsException.class, () -> x.line(1, 0));
        // they are told as they were, whatever the house is now
        IntegerHouse y = Checks.house("var x;");
        y.push();
        Checks.read(y, "var y; claim a = x - 3 * y <= 5;");
        dueProve(y, "of a 1;", 0);
        y.pop();
        dueLine(y, 1, 1, -3, 0, 0, 5);
        y.cut(0, 0);
        y.sync();
        Checks.tape(y, "of b 1;");
        Checks.due("DOWN", y.prove(), IntegerHouse.DOWN);
        dueLine(y, 1, 1, -3, 0, 0, 5);
        Checks.due("the tape stays", y.count(4), 7);
        y.start();
        dueLine(y, 1, 1, -3, 0, 0, 5);
        dueWrong(y, "of a 1;", 5, 0);
    }

    private static void lineIndex() {
        IntegerHouse x = house();
        for (int i : new int[] {-1, 0, 1, FAR[0], FAR[1]}) {
            Checks.dueThrow("before", IndexOutOfBoundsException.class, () -> x.line(i, 0));
        }
        dueProve(x, "of a 1; of a 2;", 0);
        for (int v = 0; v < 5; v++) {
            Checks.due("line(2, " + v + ")", x.line(2, v), v == 0 ? 2 : v == 4 ? 3 : 0);
        }
        for (int i : new int[] {-1, 0, 3, 200, 201, FAR[0], FAR[1]}) {
            Checks.dueThrow("line(" + i + ", 0)", IndexOutOfBoundsException.class, () -> x.line(i, 0));
        }
        for (int v : new int[] {-1, 5, FAR[0], FAR[1]}) {
            Checks.dueThrow("line(1, " + v + ")", IndexOutOfBoundsException.class, () -> x.line(1, v));
        }
        // variables that there are not have factors 0
        IntegerHouse y = Checks.house("var x; claim a = x <= 5;");
        dueProve(y, "of a 1;", 0);
        dueLine(y, 1, 1, 0, 0, 0, 5);
        IntegerHouse z = Checks.house("claim a = 1 < 0;");
        dueWrong(z, "of a 1;", 5, 0);
        dueWrong(z, "case x 1;", 5, 0);
    }

    private static void refused() {
        IntegerHouse x = house();
        x.decide();
        x.own(0);
        String before = Seen.of(x);
        dueWrong(x, "of", 2, 2);
        Checks.due("what is refused changes nothing", Seen.of(x), before);
        dueProve(x, "", 0);
        Checks.due("it is no act", Seen.of(x), before);
    }
}
