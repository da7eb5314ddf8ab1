/** Promises 11 to 21 and the document's parts 2 and 3: each limit, the one beyond it, each refusal. */
final class TextEdgesTest {
    private static final int[] FAR = {Integer.MIN_VALUE, Integer.MAX_VALUE};
    private static final String X = "var x;";

    public static void main(String[] args) {
        blanks();
        words();
        reserved();
        numbers();
        signs();
        badBytes();
        places();
        variables();
        claims();
        names();
        divisorNumbers();
        tokens();
        open();
        cases();
        atoms();
        greatParts();
        greatLines();
        greatDivisors();
        greatCases();
        faultOrder();
        firstClaim();
        refusedRead();
        faultKinds();
        on();
        layers();
        find();
        about();
        atom();
        print();
        longPrint();
        holds();
        forms();
        Checks.finish();
    }

    private static void dueRead(String text, int claims) {
        Checks.due("read of " + text, Checks.read(new IntegerHouse(), text), claims);
    }

    // ---- part 2: tokens

    private static void blanks() {
        dueRead("", 0);
        dueRead(" ", 0);
        dueRead("\n", 0);
        dueRead("\n \n\n  ", 0);
        dueRead(Checks.repeat("\n", 2000), 0);
        dueRead("\nvar\nx\n;\nclaim\na\n=\nx\n<\n1\n;\n", 1);
        dueRead("var x;claim a=x<1;", 1);
        // of all bytes only 32 and 10 are blanks
        for (int b = 0; b < 256; b++) {
            boolean blank = b == 32 || b == 10;
            boolean letter = b >= 'a' && b <= 'z' || b >= 'A' && b <= 'Z';
            boolean digit = b >= '0' && b <= '9';
            boolean sign = "()[],;=+-*<>".indexOf(b) >= 0;
            IntegerHouse x = new IntegerHouse();
            int answer = Checks.read(x, "var x;" + (char) b);
            Checks.due("byte " + b, answer, blank ? 0 : -1006);
            Checks.due("its fault", x.fault(), blank ? 0 : letter || digit || sign ? 2 : 1);
        }
    }

    private static void words() {
        dueRead("var abcdefgh ABCDEFGH z9999999 Z;", 0);
        Checks.dueFault("var abcdefghi;", 1, 4);
        Checks.dueFault("var a12345678;", 1, 4);
        Checks.dueFault("var abcdefgh abcdefghi;", 1, 13);
        Checks.dueFault("claim abcdefghi = true;", 1, 6);
        Checks.dueFault("divisible", 1, 0);
        // great and small letters are others
        IntegerHouse x = Checks.house("var x X; claim a = x < X; claim A = X < x; claim True = a; claim VAR = A;");
        Checks.due("count(1)", x.count(1), 4);
        Checks.tape(x, "True");
        Checks.due("find", x.find(), 2);
        // a name of the same first seven letters is another one
        dueRead("var abcdefgh abcdefg abcdefgg;", 0);
        Checks.dueFault("var abcdefgh abcdefg abcdefgh;", 3, 21);
    }

    private static void reserved() {
        String[] words = {"var", "claim", "and", "or", "not", "true", "false", "abs", "min", "max", "div", "mod", "divides", "if"};
        for (String word : words) {
            Checks.dueFault("var " + word + ";", 2, 4);
            Checks.dueFault("var x " + word + ";", 2, 6);
            Checks.dueFault("claim " + word + " = true;", 2, 6);
            IntegerHouse x = Checks.house(X);
            Checks.tape(x, " " + word);
            Checks.due("find " + word, x.find(), -1001);
            Checks.due("fault", x.fault(), 2);
            Checks.tape(x, "of " + word + " 1;");
            Checks.due("prove", x.prove(), -1003);
            Checks.due("fault", x.fault(), 2);
        }
        // those of proofs, and longer or greater ones, are names
        for (String word : new String[] {"of", "sum", "cut", "case", "else", "done", "vars", "an", "iff", "nota", "Not", "abs1", "dividesX"}) {
            if (word.length() <= 8) {
                dueRead("var " + word + "; claim a = " + word + " < 1;", 1);
                dueRead("claim " + word + " = true; claim a = " + word + ";", 2);
            }
        }
    }

    private static void numbers() {
        dueRead(X + "claim a = x < 0;", 1);
        dueRead(X + "claim a = x < 099999;", 1);
        dueRead(X + "claim a = x < 000000;", 1);
        dueRead(X + "claim a = 999999 * [x - x] < 1;", 1);
        Checks.dueFault(X + "claim a = x < 0000000;", 1, 20);
        Checks.dueFault(X + "claim a = x < 1000000;", 1, 20);
        Checks.dueFault(X + "claim a = x < 0x;", 1, 20);
        Checks.dueFault(X + "claim a = x < 12345z;", 1, 20);
        Checks.dueFault(X + "claim a = 2x < 1;", 1, 16);
        Checks.dueFault(X + "claim a = x < 1true;", 1, 20);
        dueRead(X + "claim a = x < 1-x;", 1);
        Checks.dueFault(X + "claim a=x<1and x<2;", 1, 16);
    }

    private static void signs() {
        String[] signs = {"(", ")", "[", "]", ",", ";", "=", "+", "-", "*", "<", ">", "<=", ">=", "!=", "->", "=="};
        for (String sign : signs) {
            Checks.dueFault(sign, 2, 0);
            Checks.dueFault("var x " + sign.replace(";", ",") + ";", 2, 6);
        }
        Checks.dueFault("!", 1, 0);
        Checks.dueFault("! =", 1, 0);
        Checks.dueFault("!!=", 1, 0);
        dueRead(X + "claim a=x<=1 and x>=1 and x!=1->x<1;", 1);
        dueRead(X + "claim a=x<1==x>1;", 1);
        // as long as can be: <=, then >; <, then ->; =, = is ==
        Checks.dueFault(X + "claim a=x<=>1;", 2, 17);
        Checks.dueFault(X + "claim a=x<->1;", 2, 16);
        Checks.dueFault(X + "claim a==x<1;", 2, 13);
        Checks.dueFault(X + "claim a=x===1;", 2, 15);
        Checks.dueFault(X + "claim a=x-->1;", 2, 16);
        dueRead(X + "claim a=x=-x;", 1);
        dueRead(X + "claim a=x>-x;", 1);
        dueRead(X + "claim a= -x<1;", 1);
        dueRead(X + "claim a=-x<1;", 1);
        dueRead(X + "claim a=x-1>x-2;", 1);
    }

    private static void badBytes() {
        IntegerHouse x = Checks.house(X + "claim a = x < 1;");
        int[] bad = {0, 9, 11, 13, 31, 33, 34, 35, 46, 58, 64, 95, 96, 123, 126, 127, 128, 160, 255};
        for (int b : bad) {
            for (String before : new String[] {"", "var ", "var y", "claim b = ", "claim b = x ", "claim b = x < 1"}) {
                Checks.due("byte " + b + " behind " + before, Checks.read(x, before + (char) b), -1000 - before.length());
                Checks.due("fault", x.fault(), 1);
            }
        }
        Checks.due("none of it came", x.count(0) + x.count(1), 2);
    }

    /** A place is that of the token's first byte; of the end how many bytes there are. */
    private static void places() {
        Checks.dueFault("var", 2, 3);
        Checks.dueFault("var   ", 2, 6);
        Checks.dueFault("\n\n  var x\n", 2, 10);
        Checks.dueFault("    x", 2, 4);
        Checks.dueFault("claim a = true" + Checks.repeat(" ", 1986), 2, 2000);
        Checks.dueFault(Checks.repeat(" ", 1999) + "x", 2, 1999);
        Checks.dueFault(Checks.repeat(" ", 1999) + "!", 1, 1999);
        Checks.dueFault(Checks.repeat(" ", 1991) + "abcdefghi", 1, 1991);
        Checks.dueFault("var x;" + Checks.repeat(";", 1994), 2, 6);
        IntegerHouse x = Checks.house(X);
        String[] asked = {"", "   ", "x", "x <", "x < 1 and", "(x < 1", "not", "mod[x, 2", "2 divides"};
        for (String text : asked) {
            Checks.tape(x, text);
            Checks.due("follows of " + text, x.follows(), -1000 - text.length());
            Checks.due("fault", x.fault(), 2);
        }
    }

    // ---- part 2: what is told, and how often

    private static void variables() {
        dueRead("var a b c d;", 0);
        Checks.dueFault("var a b c d e;", 5, 12);
        Checks.dueFault("var a; var b; var c; var d; var e;", 5, 32);
        Checks.dueFault("var a b c d d;", 3, 12);
        Checks.dueFault("var a b c d true;", 2, 12);
        Checks.dueFault("var a b c d e !", 5, 12);
        Checks.dueFault("var a b c d ?", 1, 12);
        IntegerHouse x = Checks.house("var a b c;");
        Checks.dueFault(x, "var d e;", 5, 6);
        Checks.due("none of them came", x.count(0), 3);
        Checks.due("the fourth", Checks.read(x, "var e;"), 0);
        Checks.dueFault(x, "var f;", 5, 4);
        Checks.due("push", x.push(), 1);
        Checks.dueFault(x, "var f;", 5, 4);
        Checks.due("a text without variables", Checks.read(x, "claim f = e < a;"), 1);
        IntegerHouse y = Checks.house("var a b c;");
        y.push();
        Checks.read(y, "var d;");
        y.pop();
        Checks.due("a place is free again", Checks.read(y, "var e;"), 0);
        Checks.due("count(0)", y.count(0), 4);
    }

    private static String manyClaims(int from, int to) {
        StringBuilder text = new StringBuilder();
        for (int k = from; k < to; k++) {
            text.append("claim c").append(k).append("=true;");
        }
        return text.toString();
    }

    private static void claims() {
        dueRead(manyClaims(0, 24), 24);
        String full = manyClaims(0, 24);
        Checks.dueFault(full + "claim c24=true;", 5, full.length() + 6);
        Checks.dueFault(full + "claim c23=true;", 3, full.length() + 6);
        Checks.dueFault(full + "claim or=true;", 2, full.length() + 6);
        Checks.dueFault(full + "claim c24", 5, full.length() + 6);
        Checks.dueFault(full + "claim", 2, full.length() + 5);
        dueRead(full + "var x;", 24);
        IntegerHouse x = Checks.house(manyClaims(0, 23));
        Checks.dueFault(x, "claim a = true; claim b = true;", 5, 22);
        Checks.due("none of them came", x.count(1), 23);
        x.push();
        Checks.due("the 24th", Checks.read(x, "claim a = c22;"), 1);
        Checks.due("its number", x.about(23, 4), 1);
        Checks.dueFault(x, "claim b = true;", 5, 6);
        x.pop();
        Checks.due("again", Checks.read(x, "claim b = c0;"), 1);
        Checks.due("on(23, false)", x.on(23, false), 1);
        Checks.due("on(24, false)", x.on(24, false), IntegerHouse.UNKNOWN);
    }

    private static void names() {
        Checks.dueFault("var x x;", 3, 6);
        Checks.dueFault("var x; var x;", 3, 11);
        Checks.dueFault("var x; claim x = true;", 3, 13);
        Checks.dueFault("claim x = true; var x;", 3, 20);
        Checks.dueFault("claim x = true; claim x = true;", 3, 22);
        // known behind its formula, not in it
        Checks.dueFault("claim a = a;", 3, 10);
        Checks.dueFault("claim a = true and not a;", 3, 23);
        dueRead("claim a = true; claim b = a;", 2);
        Checks.dueFault("claim b = a; claim a = true;", 3, 10);
        Checks.dueFault("claim a = x < 1; var x;", 3, 10);
        // a variable's where a claim's can stand begins a term; a claim's in a term cannot come
        String two = X + "claim a = x < 1; claim b = ";
        Checks.dueFault(two + "x;", 2, two.length() + 1);
        Checks.dueFault(two + "a < 1;", 2, two.length() + 2);
        Checks.dueFault(two + "a + 1 < 1;", 2, two.length() + 2);
        Checks.dueFault(two + "1 < a;", 2, two.length() + 4);
        Checks.dueFault(two + "-a < 1;", 2, two.length() + 1);
        Checks.dueFault(two + "2 * a < 1;", 2, two.length() + 4);
        Checks.dueFault(two + "[a] < 1;", 2, two.length() + 1);
        Checks.dueFault(two + "2 divides a;", 2, two.length() + 10);
        // of one token the least: a name that is not known where none can come is 2
        Checks.dueFault(two + "x < 1 nope;", 2, two.length() + 6);
        Checks.dueFault(two + "a nope;", 2, two.length() + 2);
        Checks.dueFault(two + "mod[x, nope] < 1;", 2, two.length() + 7);
        Checks.dueFault(two + "nope nope;", 3, two.length());
        Checks.dueFault(two + "not nope;", 3, two.length() + 4);
        Checks.dueFault(two + "(nope;", 3, two.length() + 1);
        Checks.dueFault(two + "-nope < 1;", 3, two.length() + 1);
        Checks.dueFault(two + "2 divides nope;", 3, two.length() + 10);
        Checks.dueFault(two + "abs nope;", 2, two.length() + 4);
        Checks.dueFault(two + "min[x, nope] < 1;", 3, two.length() + 7);
    }

    private static void divisorNumbers() {
        for (int n = 0; n < 15; n++) {
            boolean right = n >= 2 && n <= 12;
            String[] formulas = {n + " divides x", "mod[x, " + n + "] = 0", "div[x, " + n + "] < 9", "not " + n + " divides x",
                "x < 1 -> " + n + " divides x"};
            int[] places = {0, 7, 7, 4, 9};
            for (int k = 0; k < formulas.length; k++) {
                IntegerHouse x = Checks.house(X);
                Checks.due("read of " + formulas[k], Checks.read(x, "claim a = " + formulas[k] + ";"), right ? 1 : -1010 - places[k]);
                Checks.due("fault", x.fault(), right ? 0 : 4);
            }
        }
        Checks.dueFault(X + "claim a = 999999 divides x;", 4, 16);
        dueRead(X + "claim a = 000012 divides x and 02 divides x;", 1);
        // where it has not to be 2 .. 12, any NUMBER can come
        dueRead(X + "claim a = 13 < x and 1 * x < 0 and 0 = 0;", 1);
        Checks.dueFault(X + "claim a = 13 !", 1, 19);
        Checks.dueFault(X + "claim a = 13 divides !", 4, 16);
        Checks.dueFault(X + "claim a = 12 divides !", 1, 27);
        Checks.dueFault(X + "claim a = 12 divides 12 divides x;", 2, 30);
        Checks.dueFault(X + "claim a = mod[x, 12 + 1] = 0;", 2, 26);
        Checks.dueFault(X + "claim a = mod[x, -2] = 0;", 2, 23);
    }

    /** A formula of 120 tokens, and of 121 with each sort of token as the last one. */
    private static void tokens() {
        String even = Checks.repeat("true or ", 59);
        IntegerHouse x = Checks.house(X + "claim a = " + even + "not true;");
        Checks.due("120 tokens", x.about(0, 5), 120);
        dueRead("claim a = " + even + "true;", 1);
        int at = 16 + even.length();
        Checks.dueFault(X + "claim a = " + even + "not not true;", 5, at + 8);
        Checks.dueFault(X + "claim a = " + even + "x < 1;", 5, at + 4);
        Checks.dueFault(X + "claim a = " + even + "x < nope;", 3, at + 4);
        Checks.dueFault(X + "claim a = " + even + "x < #;", 1, at + 4);
        Checks.dueFault(X + "claim a = " + even + "x < ;", 2, at + 4);
        Checks.dueFault(X + "claim a = " + even + "x < [x];", 5, at + 4);
        Checks.dueFault(X + "claim a = " + even + "x < abs[x];", 5, at + 4);
        Checks.dueFault(X + "claim a = " + even + "x < true;", 2, at + 4);
        Checks.dueFault(X + "claim a = " + even + "x < 1234567;", 1, at + 4);
        Checks.dueFault(X + "claim a = " + even + "(true);", 5, at + 5);
        Checks.dueFault(X + "claim a = " + even + "(13 divides x);", 4, at + 1);
        Checks.dueFault(X + "claim a = " + even + "not 12 divides x;", 5, at + 7);
        Checks.dueFault(X + "claim a = " + even + "not 13 x;", 2, at + 7);
        Checks.dueFault(X + "claim a = " + even + "not 13 divides x;", 4, at + 4);
        Checks.dueFault(X + "claim a = " + even + "not x divides x;", 2, at + 6);
        Checks.dueFault(X + "claim a = " + even + "not true", 2, at + 8);
        Checks.dueFault(X + "claim a = " + even + "not true)", 2, at + 8);
        Checks.dueFault(X + "claim a = " + even + "not true or", 5, at + 9);
        String odd = even + "true or ";
        Checks.dueFault(X + "claim a = " + odd + "13 divides x;", 5, 16 + odd.length());
        Checks.dueFault(X + "claim a = " + odd + "nope;", 3, 16 + odd.length());
        Checks.dueFault(X + "claim a = " + odd + ";", 2, 16 + odd.length());
        // each formula has its own 120, the words and the name ahead are none of it
        dueRead("claim a = " + even + "not true; claim b = " + even + "not a;", 2);
        Checks.tape(x, even + "not true");
        Checks.due("follows with 120", x.follows(), 1);
        Checks.tape(x, even + "not true or true");
        Checks.due("follows with 121", x.follows(), -1000 - even.length() - 9);
        Checks.due("fault", x.fault(), 5);
        String term = Checks.repeat("x-x+", 29);
        Checks.tape(x, "-" + term + "x+1");
        Checks.due("extreme with 120", x.extreme(true), 2);
        Checks.tape(x, "-" + term + "x+1+x");
        Checks.due("extreme with 121", x.extreme(true), -1120);
        Checks.due("fault", x.fault(), 5);
        IntegerHouse plain = Checks.house(X + "claim a = x <= 5;");
        Checks.tape(plain, "-" + term + "x+1");
        Checks.due("relaxed with 120", plain.relaxed(), 2);
        Checks.tape(plain, "-" + term + "x+1+x");
        Checks.due("relaxed with 121", plain.relaxed(), -1120);
        Checks.tape(plain, "-" + term + "x+1+x");
        Checks.due("search with 121", plain.search(0, 1), -1120);
        Checks.due("fault", plain.fault(), 5);
    }

    /** Of ( [ and 'not' 12 are open at most, however they are mixed. */
    private static void open() {
        for (int parens = 0; parens <= 12; parens++) {
            for (int nots = 0; nots <= 12 - parens; nots++) {
                int boxes = 12 - parens - nots;
                String before = Checks.repeat("(", parens) + Checks.repeat("not ", nots) + Checks.repeat("[", boxes);
                String behind = Checks.repeat("]", boxes) + "<1" + Checks.repeat(")", parens);
                dueRead(X + "claim a = " + before + "x" + behind + ";", 1);
                Checks.dueFault(X + "claim a = " + before + "[x]" + behind + ";", 5, 16 + before.length());
                if (boxes == 0) {
                    Checks.dueFault(X + "claim a = " + before + "(x<1)" + ";", 5, 16 + before.length());
                    Checks.dueFault(X + "claim a = " + before + "not x<1" + ";", 5, 16 + before.length());
                }
            }
        }
        // one is closed: another may come; a 'not' is open till its one ends
        String eleven = Checks.repeat("(", 11);
        String closes = Checks.repeat(")", 11);
        dueRead(X + "claim a = " + eleven + "(true) and (true) and not true and [x] < [x]" + closes + ";", 1);
        dueRead(X + "claim a = " + eleven + "not true and not true" + closes + ";", 1);
        Checks.dueFault(X + "claim a = " + eleven + "not (true)" + closes + ";", 5, 31);
        Checks.dueFault(X + "claim a = " + eleven + "not [x] < 1" + closes + ";", 5, 31);
        Checks.dueFault(X + "claim a = " + eleven + "not x < [x]" + closes + ";", 5, 35);
        dueRead(X + "claim a = " + eleven + "not x < 1 and [x] < 1" + closes + ";", 1);
        dueRead(X + "claim a = " + eleven + "not 2 divides x and not true" + closes + ";", 1);
        Checks.dueFault(X + "claim a = " + eleven + "not 2 divides [x]" + closes + ";", 5, 41);
        dueRead(X + "claim a = " + eleven + "min[x, x] < max[x, x]" + closes + ";", 1);
        Checks.dueFault(X + "claim a = " + eleven + "min[x, [x]] < 1" + closes + ";", 5, 34);
        // one that was closed makes place for one, not for two
        String[] closed = {"(true)", "not true", "[x] < 1", "abs[x] < 1", "2 divides [x]", "((true))", "not not true", "[[x]] < [[x]]"};
        String ten = eleven.substring(1);
        for (String part : closed) {
            int one = part.startsWith("((") || part.startsWith("[[") || part.startsWith("not not") ? 1 : 0;
            String before = X + "claim a = " + (one == 0 ? eleven : ten) + part + " and ";
            Checks.dueFault(before + (one == 0 ? "((" : "(((") + "true;", 5, before.length() + 1 + one);
            Checks.dueFault(before + (one == 0 ? "not not " : "not not not ") + "true;", 5, before.length() + 4 + 4 * one);
            Checks.dueFault(before + (one == 0 ? "[[" : "[[[") + "x;", 5, before.length() + 1 + one);
            String ends = (one == 0 ? closes : closes.substring(1)) + ";";
            dueRead(before + (one == 0 ? "(true)" : "((true))") + ends, 1);
            dueRead(before + (one == 0 ? "not true" : "not not true") + ends, 1);
            dueRead(before + (one == 0 ? "[x] < [x]" : "[[x]] < [[x]]") + ends, 1);
        }
        // what cannot come is 2, be it one too many or not
        Checks.dueFault(X + "claim a = " + eleven + "(true (" + closes + ";", 2, 33);
        // terms that are asked for, too
        IntegerHouse x = Checks.house(X + "claim a = x <= 5;");
        Checks.tape(x, Checks.repeat("[", 12) + "x" + Checks.repeat("]", 12));
        Checks.due("extreme with 12", x.extreme(true), 1);
        Checks.tape(x, Checks.repeat("[", 13) + "x" + Checks.repeat("]", 13));
        Checks.due("extreme with 13", x.extreme(true), -1012);
        Checks.tape(x, Checks.repeat("[", 13) + "x" + Checks.repeat("]", 13));
        Checks.due("relaxed with 13", x.relaxed(), -1012);
        Checks.due("fault", x.fault(), 5);
        Checks.tape(x, Checks.repeat("[", 12) + "x" + Checks.repeat("]", 12) + " if " + Checks.repeat("(", 12) + "a" + Checks.repeat(")", 12));
        Checks.due("12 of each", x.extreme(true), 1);
    }

    // ---- part 3: cases, atoms, what is too great

    private static void dueCases(String formula, int cases) {
        Checks.due("cases of " + formula, Checks.house("var x y; claim n = mod[x, 5] < 1; claim a = " + formula + ";").about(1, 2), cases);
    }

    private static void cases() {
        dueCases("true", 0);
        dueCases("n", 0);
        dueCases("n and (false or n)", 0);
        dueCases("x < 1", 1);
        dueCases("2 divides x", 1);
        dueCases("x < 1 and 2 divides x and n and 0 < 1", 3);
        dueCases("abs[x] < 1", 2);
        dueCases("min[x, y] < max[x, y]", 4);
        dueCases("2 divides mod[x, 12]", 12);
        dueCases("div[x, 2] + mod[x, 3] = 1 or abs[x] < 0", 8);
        dueCases("abs[1] + abs[1] < 0", 4);
        dueCases("abs[abs[abs[abs[abs[abs[x]]]]]] < 1", 64);
        dueCases("abs[abs[abs[abs[abs[x]]]]] < 1 and abs[abs[abs[abs[abs[x]]]]] < 1", 64);
        dueCases("mod[x, 12] < 1 and mod[x, 12] < 1 and mod[x, 12] < 1 and mod[x, 12] < 1 and mod[x, 12] < 1 and mod[x, 4] < 1", 64);
        dueCases("mod[x, 9] + mod[x, 7] < 1 and x < 1", 64);
        String[] many = {"abs[abs[abs[abs[abs[abs[x]]]]]] < 1 and x < 1", "mod[x, 5] + 0 * div[x, 12] + x < 9 or mod[x, 5] < 1",
            "abs[abs[abs[abs[abs[abs[abs[x]]]]]]] < 1", "mod[x, 11] < mod[x, 6]", "0 < mod[1, 11] + mod[1, 6]",
            "div[mod[x, 12], 12] < 1", Checks.repeat("mod[x, 12] < 1 or ", 6) + "true"};
        for (String formula : many) {
            Checks.dueFault("var x y; claim a = " + formula + ";", 5, 15);
        }
        // named ones fall in their own claims
        dueRead(X + "claim a = abs[abs[abs[abs[abs[abs[x]]]]]] < 1; claim b = a and abs[abs[abs[abs[abs[abs[x]]]]]] < 1 and a;", 2);
    }

    private static void atoms() {
        StringBuilder twelve = new StringBuilder("x = 0");
        for (int k = 1; k < 12; k++) {
            twelve.append(" or x = ").append(k);
        }
        IntegerHouse x = Checks.house(X + "claim a = " + twelve + ";");
        Checks.due("24 atoms", x.about(0, 1), 24);
        Checks.due("the last one", x.atom(0, 23, 4), -11);
        Checks.due("none behind it", x.atom(0, 24, 4), IntegerHouse.OUTSIDE);
        Checks.dueFault(x, "claim b = " + twelve + " or x <= 12;", 5, 6);
        Checks.dueFault(x, "claim b = a or x <= 12;", 5, 6);
        Checks.dueFault(x, "claim b = a or 2 divides x;", 5, 6);
        Checks.due("like ones are one", Checks.read(x, "claim b = a and (a or x <= 11 or x < 12 or not x >= 11);"), 1);
        Checks.due("24 atoms", x.about(1, 1), 24);
        Checks.due("what is just true or false is none", Checks.read(x, "claim c = a or 1 < 0 or 2 divides 4 or x - x = 1;"), 1);
        Checks.due("24 atoms", x.about(2, 1), 24);
        Checks.tape(x, "a or x <= 12");
        Checks.due("follows with 25", x.follows(), -1000);
        Checks.due("fault", x.fault(), 5);
        Checks.tape(x, " x if a or x <= 12");
        Checks.due("extreme with 25", x.extreme(true), -1006);
        Checks.due("fault", x.fault(), 5);
    }

    private static void dueSize(String formula, boolean right) {
        IntegerHouse x = Checks.house("var x y;");
        Checks.due("read of " + formula, Checks.read(x, "claim a = " + formula + ";"), right ? 1 : -1006);
        Checks.due("fault of " + formula, x.fault(), right ? 0 : 4);
    }

    /** 1000000 in size: a part with its NUMBER and -, a term as a whole, l - r, a - r. */
    private static void greatParts() {
        dueSize("2 divides 2 * [500000 * x]", true);
        dueSize("2 divides -2 * [500000 * x]", true);
        dueSize("2 divides 2 * [500000 * x] + x", false);
        dueSize("3 divides 3 * [333334 * x]", false);
        dueSize("3 divides -3 * [333334 * x]", false);
        dueSize("2 divides 2 * [500000]", true);
        dueSize("2 divides x - 2 * [500000]", true);
        dueSize("2 divides 2 * [500001]", false);
        dueSize("2 divides 2 * [500001] - 2 * [500001]", false);
        dueSize("2 divides 999999 + 1", true);
        dueSize("2 divides 999999 + 2", false);
        dueSize("2 divides -999999 - 1 - x", true);
        dueSize("2 divides -999999 - 2 - x", false);
        dueSize("2 divides 999999 * x + x", true);
        dueSize("2 divides 999999 * x + 2 * x", false);
        dueSize("2 divides -999999 * y - 2 * y", false);
        // no sum on its way, but one in [ ] is whole
        dueSize("2 divides 999999 + 999999 + 999999 - 999999 - 999999", true);
        dueSize("2 divides 999999 * x + 999999 * x - 999999 * x", true);
        dueSize("2 divides [999999 + 999999] - 999999", false);
        dueSize("2 divides 0 * [999999 + 2]", false);
        dueSize("2 divides 0 * [999999 + 1]", true);
        // a - r of div and mod
        dueSize("mod[x - 999999, 2] = 0", true);
        dueSize("mod[x - 999998, 3] = 0", true);
        dueSize("mod[x - 999999, 3] = 0", false);
        dueSize("0 * div[x - 999999, 2] = 0", true);
        dueSize("0 * div[x - 999999, 3] = 0", false);
        dueSize("mod[x + 999999 + 1, 12] = 0", true);
        dueSize("mod[x - 999999 - 1, 2] = 0", false);
        // over a denominator the number is that of the whole form
        dueSize("2 divides mod[x, 2] + 499999 * [div[x, 2] - div[x, 2]] + x", true);
        dueSize("2 divides div[x, 2] + 500000", true);
        dueSize("2 divides div[x, 2] + 500001", false);
        dueSize("2 divides div[x, 2] + 500000 * x", false);
        dueSize("2 divides div[x, 2] + 499999 * x", true);
    }

    /** A line's factors 20, its c 99999 in size, also of lines that are just true or false. */
    private static void greatLines() {
        String[] signs = {"<", "<=", "=", ">=", ">", "!="};
        // the greatest number behind each sign that is taken on either side, and the one beyond
        int[] most = {100000, 99999, 99999, 99999, 99998, 99999};
        int[] least = {-99998, -99999, -99999, -99999, -100000, -99999};
        for (int k = 0; k < signs.length; k++) {
            for (int n : new int[] {most[k], most[k] + 1, least[k], least[k] - 1}) {
                boolean right = n >= least[k] && n <= most[k];
                String number = n < 0 ? "-" + -n : "" + n;
                dueSize("x " + signs[k] + " " + number, right);
                // just true or false, too
                dueSize("0 " + signs[k] + " " + number, right);
                dueSize("true or x - x " + signs[k] + " " + number, right);
            }
            dueSize("20 * x " + signs[k] + " 0", true);
            dueSize("-20 * x " + signs[k] + " 0", true);
            dueSize("20 * x " + signs[k] + " y", true);
            dueSize("21 * x " + signs[k] + " y", false);
            dueSize("-21 * x " + signs[k] + " y", false);
            dueSize("20 * x " + signs[k] + " -x", false);
            dueSize("0 " + signs[k] + " 21 * x - 21 * x", true);
            dueSize("x + 999999 " + signs[k] + " 999999 - x", true);
        }
        dueSize("div[x, 2] < 10 * x", true);
        dueSize("div[x, 2] < 11 * x", false);
        dueSize("div[x, 2] < 49999", true);
        // its second case is x - 1 < 100000
        dueSize("div[x, 2] < 50000", false);
    }

    private static void greatDivisors() {
        for (int n = 2; n <= 12; n++) {
            for (int m = 2; m <= 12; m++) {
                dueSize(n + " divides div[x, " + m + "]", n * m <= 12);
                // just true or false, too
                dueSize(n + " divides div[0, " + m + "]", n * m <= 12);
                IntegerHouse x = Checks.house(X);
                Checks.read(x, "claim a = 0 * div[div[x, " + n + "], " + m + "] < 9;");
                Checks.due("div in div, " + n + " and " + m, x.fault(), n * m > 64 ? 5 : n * m > 12 ? 4 : 0);
            }
        }
        dueSize("2 divides div[x, 2] + div[x, 3]", true);
        dueSize("2 divides div[x, 3] + div[x, 4]", false);
        dueSize("3 divides div[x, 2] + div[x, 4]", true);
        dueSize("2 divides 4 * div[x, 8]", false);
    }

    private static void greatCases() {
        dueSize("abs[20 * x] < 1", true);
        dueSize("abs[21 * x] < 1", false);
        dueSize("0 * abs[21 * x] < 1", false);
        dueSize("abs[x - 99999] < 1", true);
        dueSize("abs[x - 100000] < 1", false);
        dueSize("abs[x + 99999] < 1", true);
        dueSize("abs[x + 100000] < 1", false);
        dueSize("min[x, 99999] < 1", true);
        dueSize("min[x, 99999 + 1] < 1", false);
        dueSize("max[99999, x] < 100000", true);
        dueSize("max[20 * x, 0] < 1", true);
        dueSize("max[20 * x, -x] < 1", false);
        dueSize("2 divides min[999999 * x, 999999 * x + 99999]", true);
        dueSize("2 divides min[999999 * x, 999999 * x + 100000]", false);
    }

    private static void faultOrder() {
        // grammar in the whole text goes before what is told of claims
        Checks.dueFault(X + "claim a = x < 100001; claim b = !;", 1, 38);
        Checks.dueFault(X + "claim a = mod[x,12] = mod[x,12]; claim b = nope;", 3, 49);
        Checks.dueFault(X + "claim a = x < 100001", 2, 26);
        // 5 more than 64 CASES; else 4; else 5 more than 24 ATOMS
        StringBuilder many = new StringBuilder("x = 0");
        for (int k = 1; k < 13; k++) {
            many.append(" or x = ").append(k);
        }
        Checks.dueFault(X + "claim a = " + many + " or 21 * x < 1;", 4, 12);
        Checks.dueFault(X + "claim a = " + many + ";", 5, 12);
        Checks.dueFault(X + "claim a = " + many + " or mod[21 * x, 12] < mod[x, 12];", 5, 12);
        Checks.dueFault(X + "claim a = 21 * x < 1 or mod[x, 12] < mod[x, 12];", 5, 12);
        Checks.dueFault(X + "claim a = mod[x, 12] < mod[x, 12] or 21 * x < 1;", 5, 12);
    }

    private static void firstClaim() {
        Checks.dueFault(X + "claim a = x < 1; claim b = 21 * x < 1; claim c = 22 * x < 1;", 4, 29);
        Checks.dueFault(X + "claim a = mod[x,12] < mod[x,12]; claim b = 21 * x < 1;", 5, 12);
        Checks.dueFault(X + "claim b = 21 * x < 1;\n claim a = mod[x,12] < mod[x,12];", 4, 12);
        IntegerHouse x = Checks.house(X);
        Checks.tape(x, "  21 * x < 1");
        Checks.due("asked: at its first token", x.follows(), -1002);
        Checks.tape(x, "  mod[x,12] < mod[x,12]");
        Checks.due("asked: at its first token", x.follows(), -1002);
        Checks.due("fault", x.fault(), 5);
    }

    // ---- promises 11 and 12

    private static void refusedRead() {
        IntegerHouse x = Checks.house("var x; claim a = x < 1;");
        x.push();
        x.on(0, false);
        x.decide();
        String before = Seen.of(x);
        String[] wrong = {"var y; claim b = y < 1; !", "var y; claim b = y < 1 and", "claim b = x < 1; claim b = x < 2;",
            "var y z w; claim b = y < 21 * w;", "var y z w v;", "claim b = mod[x,12] < mod[x,12];", "var y; claim b = x < 100001; claim c = b;"};
        for (String text : wrong) {
            Checks.due("read of " + text, Checks.read(x, text) < -999 ? 1 : 0, 1);
            Checks.due("what is refused changes nothing", Seen.of(x), before);
            Checks.due("but the tape", x.count(4), 0);
        }
        Checks.due("names of refused texts are not known", Checks.read(x, "var y; claim b = y < 1; claim c = b;"), 2);
        Checks.due("all ON", x.about(1, 0) + x.about(2, 0), 2);
        Checks.due("others stay as they were", x.about(0, 0), 0);
    }

    private static void faultKinds() {
        IntegerHouse x = new IntegerHouse();
        Checks.due("before one", x.fault(), 0);
        x.on(0, true);
        x.pop();
        x.about(0, 0);
        x.cut(-5, 0);
        x.search(5, 5);
        Checks.due("other refusals are no FAULT", x.fault(), 0);
        String[] texts = {"!", "x", "claim a = b;", "claim a = 1 divides 1;", "var a b c d e;"};
        for (int k = 0; k < 5; k++) {
            Checks.read(x, texts[k]);
            Checks.due("kind", x.fault(), k + 1);
            Checks.due("a right one", Checks.read(x, ""), 0);
            Checks.due("the latest stays", x.fault(), k + 1);
        }
        x.cut(0, 0);
        x.sync();
        Checks.tape(x, "!");
        Checks.due("read while DOWN", x.read(), IntegerHouse.DOWN);
        Checks.due("fault while DOWN", x.fault(), 5);
        x.start();
        Checks.due("fault behind start()", x.fault(), 5);
    }

    // ---- promises 13 to 15

    private static void on() {
        IntegerHouse x = Checks.house(manyClaims(0, 24));
        for (int claim : new int[] {-1, 24, 25, FAR[0], FAR[1]}) {
            String before = Seen.of(x);
            Checks.due("on(" + claim + ", true)", x.on(claim, true), IntegerHouse.UNKNOWN);
            Checks.due("on(" + claim + ", false)", x.on(claim, false), IntegerHouse.UNKNOWN);
            Checks.due("nothing changes", Seen.of(x), before);
        }
        int acts = x.count(7);
        int bytes = x.count(5);
        for (int claim : new int[] {0, 23}) {
            Checks.due("it was so already", x.on(claim, true), 0);
            Checks.due("not", x.on(claim, false), 1);
            Checks.due("it was so already", x.on(claim, false), 0);
            Checks.due("ON", x.on(claim, true), 1);
        }
        Checks.due("acts all the same", x.count(7), acts + 8);
        Checks.due("with records", x.count(5), bytes + 72);
    }

    private static void layers() {
        IntegerHouse x = new IntegerHouse();
        Checks.due("pop of none", x.pop(), IntegerHouse.STATE);
        for (int k = 1; k <= 8; k++) {
            Checks.due("push " + k, x.push(), k);
            if (k <= 4) {
                Checks.due("read", Checks.read(x, "var v" + k + "; claim c" + k + " = v" + k + " < 1;"), 1);
                Checks.due("layers when it came", x.about(k - 1, 4), k);
            }
        }
        Checks.read(x, "claim last = true;");
        Checks.due("layers when it came", x.about(4, 4), 8);
        String before = Seen.of(x);
        Checks.due("push 9", x.push(), IntegerHouse.ROOM);
        Checks.due("nothing changes", Seen.of(x), before);
        for (int k = 7; k >= 0; k--) {
            Checks.due("pop to " + k, x.pop(), k);
            Checks.due("variables", x.count(0), Math.min(k, 4));
            Checks.due("claims", x.count(1), Math.min(k, 4));
        }
        before = Seen.of(x);
        Checks.due("pop of none", x.pop(), IntegerHouse.STATE);
        Checks.due("nothing changes", Seen.of(x), before);
        Checks.due("again", x.push(), 1);
    }

    // ---- promises 16 to 18

    private static void dueFind(IntegerHouse x, String text, int answer, int kind) {
        int was = x.fault();
        Checks.tape(x, text);
        Checks.due("find " + text, x.find(), answer);
        Checks.due("its fault", x.fault(), kind == 0 ? was : kind);
    }

    private static void find() {
        IntegerHouse x = Checks.house("var x; claim abcdefgh = x < 1; " + manyClaims(1, 24));
        dueFind(x, "abcdefgh", 0, 0);
        dueFind(x, "c1", 1, 0);
        dueFind(x, "c23", 23, 0);
        dueFind(x, "\n\n c23 \n", 23, 0);
        dueFind(x, Checks.repeat(" ", 1997) + "c23", 23, 0);
        dueFind(x, "c24", -1000, 3);
        dueFind(x, "abcdefg", -1000, 3);
        dueFind(x, "abcdefghi", -1000, 1);
        dueFind(x, "", -1000, 2);
        dueFind(x, Checks.repeat("\n", 2000), -3000, 2);
        dueFind(x, "x", -1000, 2);
        dueFind(x, "x !", -1000, 2);
        dueFind(x, "nope !", -1000, 3);
        dueFind(x, "nope c1", -1000, 3);
        dueFind(x, "c1 c2", -1003, 2);
        dueFind(x, "c1 nope", -1003, 2);
        dueFind(x, "c1 x", -1003, 2);
        dueFind(x, "c1 !", -1003, 1);
        dueFind(x, "c1 1234567", -1003, 1);
        dueFind(x, "c1;", -1002, 2);
        dueFind(x, "(c1)", -1000, 2);
        dueFind(x, "1", -1000, 2);
        dueFind(x, "1c", -1000, 1);
        dueFind(x, "#", -1000, 1);
        IntegerHouse y = Checks.house("claim a = true;");
        y.push();
        Checks.read(y, "claim b = a; var v;");
        dueFind(y, "b", 1, 0);
        y.pop();
        dueFind(y, "b", -1000, 3);
        dueFind(y, "v", -1000, 3);
        dueFind(y, "a", 0, 0);
    }

    private static void about() {
        IntegerHouse x = Checks.house("claim a = true; claim b = a;");
        for (int claim : new int[] {-1, 2, FAR[0], FAR[1]}) {
            for (int what : new int[] {-1, 0, 5, 6}) {
                Checks.due("about(" + claim + ", " + what + ")", x.about(claim, what), IntegerHouse.UNKNOWN);
            }
        }
        for (int what : new int[] {-1, 6, FAR[0], FAR[1]}) {
            Checks.due("about(0, " + what + ")", x.about(0, what), IntegerHouse.NONE);
        }
        int[] facts = {1, 0, 0, 1, 0, 1};
        for (int what = 0; what < 6; what++) {
            Checks.due("about(1, " + what + ")", x.about(1, what), facts[what]);
        }
        String[] plain = {"true", "true and true", "(true)", "((x = 1) and x < 1 and x <= 1 and x > 1 and x >= 1)", "p", "p and x < 1",
            "[x] < 2 * [x - 1]", "1 < 0"};
        String[] others = {"false", "true or true", "not true", "true -> true", "true == true", "x != 1", "2 divides x", "abs[x] < 1",
            "x < min[x, 1]", "max[x, 1] < x", "div[x, 2] < 1", "mod[x, 2] < 1", "q", "p and q", "(x != 1)", "p and false"};
        for (String formula : plain) {
            duePlain(formula, 1);
        }
        for (String formula : others) {
            duePlain(formula, 0);
        }
    }

    private static void duePlain(String formula, int want) {
        IntegerHouse x = Checks.house("var x; claim p = x < 3; claim q = x < 3 or x < 4; claim a = " + formula + ";");
        Checks.due("whether it is PLAIN: " + formula, x.about(2, 3), want);
        x.on(0, false);
        x.on(1, false);
        Checks.tape(x, "1");
        Checks.due("relaxed", x.relaxed() == IntegerHouse.STATE ? 0 : 1, want);
    }

    private static void atom() {
        IntegerHouse x = Checks.house("var x y; claim a = 3 * x - 4 * y < 9; claim b = 7 divides 9 * x - y - 1; claim c = true;");
        Checks.read(x, "var z w;");
        int[][] want = {{3, -4, 0, 0, 8, 0}, {2, 6, 0, 0, 6, 7}};
        for (int claim = 0; claim < 2; claim++) {
            for (int what = 0; what < 6; what++) {
                Checks.due("atom(" + claim + ", 0, " + what + ")", x.atom(claim, 0, what), want[claim][what]);
            }
            for (int k : new int[] {-1, 1, FAR[0], FAR[1]}) {
                Checks.due("atom(" + claim + ", " + k + ", 0)", x.atom(claim, k, 0), IntegerHouse.OUTSIDE);
            }
            for (int what : new int[] {-1, 6, FAR[0], FAR[1]}) {
                Checks.due("atom(" + claim + ", 0, " + what + ")", x.atom(claim, 0, what), IntegerHouse.OUTSIDE);
            }
        }
        Checks.due("none has atom 0", x.atom(2, 0, 0), IntegerHouse.OUTSIDE);
        for (int claim : new int[] {-1, 3, FAR[0], FAR[1]}) {
            Checks.due("UNKNOWN goes before OUTSIDE", x.atom(claim, -1, 9), IntegerHouse.UNKNOWN);
            Checks.due("UNKNOWN", x.atom(claim, 0, 0), IntegerHouse.UNKNOWN);
        }
    }

    // ---- promises 19 and 20

    private static void print() {
        IntegerHouse x = Checks.house("var x; claim a = (((x<1)));");
        Checks.due("before any", x.printed(0), IntegerHouse.NONE);
        Checks.due("print", x.print(0), 5);
        for (int claim : new int[] {-1, 1, FAR[0], FAR[1]}) {
            Checks.due("print(" + claim + ")", x.print(claim), IntegerHouse.UNKNOWN);
        }
        int[] bytes = {'x', ' ', '<', ' ', '1'};
        for (int i = 0; i < 5; i++) {
            Checks.due("printed(" + i + ")", x.printed(i), bytes[i]);
        }
        for (int i : new int[] {-1, 5, 6, 2000, FAR[0], FAR[1]}) {
            Checks.due("printed(" + i + ")", x.printed(i), IntegerHouse.NONE);
        }
        x.cut(0, 0);
        x.sync();
        x.push();
        x.cut(0, 0);
        x.sync();
        Checks.due("DOWN", x.print(0), IntegerHouse.DOWN);
        Checks.due("what was printed stays", x.printed(4), '1');
        x.start();
        Checks.due("UNKNOWN", x.print(0), IntegerHouse.UNKNOWN);
        Checks.due("what was printed stays", x.printed(4), '1');
        // shorter ones leave nothing of longer ones
        Checks.read(x, "claim t = true; claim u = t;");
        Checks.due("print", x.print(1), 1);
        Checks.due("printed(1)", x.printed(1), IntegerHouse.NONE);
    }

    private static void longPrint() {
        String v = "abcdefgh";
        String term = Checks.repeat(v + "-" + v + "+", 29);
        IntegerHouse x = Checks.house("var " + v + ";claim a = -" + term + v + "<000001;");
        String want = ("- " + Checks.repeat(v + " - " + v + " + ", 29) + v + " < 000001");
        Checks.due("120 tokens", Checks.printed(x, 0), want);
        Checks.due("its last byte", x.printed(want.length() - 1), '1');
        Checks.due("behind it", x.printed(want.length()), IntegerHouse.NONE);
        // 60 words 'divides', and the longest signs
        StringBuilder text = new StringBuilder("12 divides " + v);
        for (int k = 0; k < 29; k++) {
            text.append(" and 12 divides ").append(v);
        }
        IntegerHouse y = Checks.house("var " + v + ";claim b = " + text + ";");
        Checks.due("print", Checks.printed(y, 0), text.toString());
    }

    // ---- promise 21

    private static void holds() {
        long far = 1000000000000L;
        String[] names = {"x", "y", "z", "w"};
        for (int variables = 0; variables <= 4; variables++) {
            IntegerHouse x = new IntegerHouse();
            for (int v = 0; v < variables; v++) {
                Checks.read(x, "var " + names[v] + ";");
            }
            Checks.read(x, "claim a = true;");
            for (int v = 0; v < 4; v++) {
                long[] values = {far, -far, far + 1, -far - 1, Long.MAX_VALUE, Long.MIN_VALUE};
                for (int k = 0; k < values.length; k++) {
                    long[] at = new long[4];
                    at[v] = values[k];
                    int want = k >= 2 && v < variables ? IntegerHouse.OUTSIDE : 1;
                    Checks.due("holds with " + values[k] + " for " + v + " of " + variables, x.holds(0, at[0], at[1], at[2], at[3]), want);
                    Checks.due("UNKNOWN goes before", x.holds(1, at[0], at[1], at[2], at[3]), IntegerHouse.UNKNOWN);
                    Checks.due("UNKNOWN goes before", x.holds(-1, at[0], at[1], at[2], at[3]), IntegerHouse.UNKNOWN);
                }
            }
        }
        IntegerHouse y = Checks.house("var x y z w; claim a = 20 * x + 20 * y + 20 * z + 20 * w < 99999; claim b = 12 divides x + y + z + w;"
            + "claim c = 20 * x - 20 * y = 20 * z - 20 * w; claim d = w > z;");
        Checks.due("all great", y.holds(0, far, far, far, far), 0);
        Checks.due("all small", y.holds(0, -far, -far, -far, -far), 1);
        Checks.due("4 * 10^12", y.holds(1, far, far, far, far), 4 * far % 12 == 0 ? 1 : 0);
        Checks.due("10^12 + 2", y.holds(1, far, 2, 0, 0), (far + 2) % 12 == 0 ? 1 : 0);
        Checks.due("far apart", y.holds(2, far, -far, far, -far), 1);
        Checks.due("one apart", y.holds(2, far, -far, far, -far + 1), 0);
        Checks.due("w", y.holds(3, 0, 0, 5, 6), 1);
        Checks.due("values of others count for nothing", Checks.house("var x; claim a = x = 3;").holds(0, 3, far + 1, -far - 1, Long.MIN_VALUE), 1);
    }

    // ---- part 3: what terms are

    private static void dueHolds(String formula, long x, boolean want) {
        IntegerHouse house = Checks.house("var x; claim a = " + formula + ";");
        Checks.due(formula + " for " + x, house.holds(0, x, 0, 0, 0), want ? 1 : 0);
    }

    private static void forms() {
        for (int n = 2; n <= 12; n++) {
            for (int v = -n - 1; v <= n + 1; v++) {
                int rest = Math.floorMod(v, n);
                dueHolds("mod[x, " + n + "] = " + rest, v, true);
                dueHolds("mod[x, " + n + "] < " + n + " and mod[x, " + n + "] >= 0", v, true);
                int part = Math.floorDiv(v, n);
                dueHolds("div[x, " + n + "] <= " + (part < 0 ? "-" : "") + Math.abs(part), v, true);
                dueHolds("div[x, " + n + "] < " + (part < 0 ? "-" : "") + Math.abs(part), v, false);
                dueHolds(n + " divides x", v, rest == 0);
                dueHolds(n + " divides -x", v, rest == 0);
            }
        }
        for (int v = -1; v <= 1; v++) {
            dueHolds("abs[x] = " + Math.abs(v), v, true);
            dueHolds("min[x, 0] = x", v, v <= 0);
            dueHolds("max[x, 0] = x", v, v >= 0);
            dueHolds("min[x, x] = max[x, x]", v, true);
            dueHolds("-x - 0 = 0 - 1 * x", v, true);
            dueHolds("x = x -> false", v, false);
            dueHolds("x != x -> false", v, true);
            dueHolds("false == x != x", v, true);
        }
    }
}
