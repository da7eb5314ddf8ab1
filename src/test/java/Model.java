import java.math.BigInteger;
import java.util.ArrayList;
import java.util.Arrays;
import java.util.HashMap;
import java.util.IdentityHashMap;
import java.util.List;
import java.util.Map;

/**
 * The document in its plainest form, sentence by sentence, with lists, trees and big numbers: it shares no code with
 * the program, and ModelTest compares the two. Speed and LANGUAGE.md do not bind it.
 */
final class Model {
    static final int NONE = -1, UNKNOWN = -101, OUTSIDE = -102, STATE = -103, ROOM = -104, DOWN = -105, LOST = -106, HARD = -107;

    private static final List<String> WORDS = List.of("var", "claim", "and", "or", "not", "true", "false", "abs", "min", "max", "div",
        "mod", "divides", "if");
    private static final List<String> LINE_WORDS = List.of("of", "sum", "cut", "case", "else", "done");
    private static final List<String> COMPARISONS = List.of("<", "<=", "=", ">=", ">", "!=");

    private static final class Fault extends RuntimeException {
        final int kind;
        final int place;

        Fault(int kind, int place) {
            super(null, null, false, false);
            this.kind = kind;
            this.place = place;
        }
    }

    private record Token(String sort, String text, int place) {
        boolean is(String what) {
            return text.equals(what) && !sort.equals("name") && !sort.equals("number");
        }
    }

    /** sum: in; part: n, minus, in (an atom, or none); var: n; box, abs, min, max, div, mod: in, n. */
    private static final class Term {
        String op;
        List<Term> in = new ArrayList<>();
        int n = 1;
        boolean minus;

        Term(String op) {
            this.op = op;
        }
    }

    /** ->, ==, or, and, not, ( over in; true, false; claim: n; divides: n, right; comparisons: left, right. */
    private static final class Formula {
        String op;
        List<Formula> in = new ArrayList<>();
        Term left;
        Term right;
        int n;

        Formula(String op) {
            this.op = op;
        }

        String told() {
            if (op.equals("(")) {
                return in.get(0).told();
            }
            StringBuilder all = new StringBuilder(op + n + "{");
            for (Formula part : in) {
                String one = part.told();
                boolean joined = (op.equals("and") || op.equals("or")) && one.startsWith(op + "0{");
                all.append(joined ? one.substring(op.length() + 2, one.length() - 1) : one + ";");
            }
            return all + (left == null ? "" : told(left)) + (right == null ? "" : "?" + told(right)) + "}";
        }

        private static String told(Term term) {
            StringBuilder all = new StringBuilder(term.op + term.n + term.minus + "[");
            for (Term part : term.in) {
                all.append(told(part)).append(',');
            }
            return all + "]";
        }
    }

    private record Atom(List<Integer> factors, int number, int n) {
    }

    private record Form(BigInteger[] factors, BigInteger number, BigInteger below) {
    }

    private static final class Claim {
        String name;
        int namePlace;
        Formula formula;
        List<Token> tokens = new ArrayList<>();
        List<Atom> atoms = new ArrayList<>();
        int cases;
        boolean plain;
        boolean falsehood;
        boolean great;
        int layer;
        boolean on = true;
    }

    private static final class Layer {
        int variables;
        int claims;
        List<Boolean> on = new ArrayList<>();
    }

    // ---- the object

    private int[] tape = new int[0];
    private final int[][] disk = new int[101][256];
    private final boolean[] torn = new boolean[101];
    private List<Integer> waits = new ArrayList<>();
    private int used;
    private int acts;
    private int cutAt = NONE;
    private int cutTear;
    private boolean down;
    private List<String> variables = new ArrayList<>();
    private List<Claim> claims = new ArrayList<>();
    private List<Layer> layers = new ArrayList<>();
    private int fault;
    private String printed = "";
    private List<BigInteger> values;
    private int height = NONE;
    private long number;
    private List<Integer> core = new ArrayList<>();
    private List<int[]> halves = new ArrayList<>();
    private List<int[]> takes = new ArrayList<>();
    private List<Long> fractions = new ArrayList<>();
    private long[] best;
    private List<BigInteger[]> lines = new ArrayList<>();

    /** For those who write texts for it. */
    List<String> variableNames() {
        return variables;
    }

    List<String> claimNames() {
        List<String> names = new ArrayList<>();
        for (Claim claim : claims) {
            names.add(claim.name);
        }
        return names;
    }

    // ---- the tape, the log, power

    int feed(int a, int b, int c, int d, int e) {
        if (tape.length + 20 > 2000) {
            throw new IllegalStateException();
        }
        int[] more = Arrays.copyOf(tape, tape.length + 20);
        int at = tape.length;
        for (int number : new int[] {a, b, c, d, e}) {
            more[at++] = number >>> 24;
            more[at++] = number >>> 16 & 255;
            more[at++] = number >>> 8 & 255;
            more[at++] = number & 255;
        }
        tape = more;
        return tape.length;
    }

    void end(int n) {
        if (n < 0 || n > tape.length) {
            throw new IllegalArgumentException();
        }
        tape = Arrays.copyOf(tape, n);
    }

    private int[] useTape() {
        int[] has = tape;
        tape = new int[0];
        return has;
    }

    private static int blocksFor(int bytes) {
        return (bytes + 247) / 248;
    }

    private boolean logHasRoom(int size) {
        return blocksFor(waits.size() + size) <= 100 - used;
    }

    private static int sum(int[] block) {
        int s = 0;
        for (int i = 0; i < 252; i++) {
            s = Integer.rotateLeft(s ^ block[i], 5) * 0x9E3779B1;
        }
        return s;
    }

    int sync() {
        if (down) {
            return DOWN;
        }
        int blocks = blocksFor(waits.size());
        for (int k = 0; k < blocks; k++) {
            int number = used + 1 + k;
            int n = Math.min(248, waits.size() - 248 * k);
            int[] block = new int[256];
            block[0] = number / 256;
            block[1] = number % 256;
            block[2] = k == blocks - 1 ? 1 : 0;
            block[3] = n;
            for (int i = 0; i < n; i++) {
                block[4 + i] = waits.get(248 * k + i);
            }
            int s = sum(block);
            for (int i = 0; i < 4; i++) {
                block[252 + i] = s >>> 8 * (3 - i) & 255;
            }
            if (cutAt == 0) {
                System.arraycopy(block, 0, disk[number], 0, cutTear);
                torn[number] = true;
                cutAt = NONE;
                down = true;
                return LOST;
            }
            disk[number] = block;
            torn[number] = false;
            cutAt = cutAt > 0 ? cutAt - 1 : cutAt;
        }
        used += blocks;
        waits = new ArrayList<>();
        return blocks;
    }

    int cut(int n, int tear) {
        if (down) {
            return DOWN;
        }
        if (n < -1 || n > 2000 || tear < 0 || tear > 255) {
            return OUTSIDE;
        }
        cutAt = n;
        cutTear = tear;
        return 1;
    }

    private boolean right(int number) {
        int[] b = disk[number];
        boolean n = b[2] == 0 ? b[3] == 248 : b[2] == 1 && b[3] >= 1 && b[3] <= 248;
        int s = b[252] << 24 | b[253] << 16 | b[254] << 8 | b[255];
        return !torn[number] && b[0] * 256 + b[1] == number && n && s == sum(b);
    }

    int start() {
        if (!down) {
            return STATE;
        }
        used = 0;
        for (int k = 1; k <= 100 && right(k); k++) {
            if (disk[k][2] == 1) {
                used = k;
            }
        }
        variables = new ArrayList<>();
        claims = new ArrayList<>();
        layers = new ArrayList<>();
        acts = 0;
        List<Integer> bytes = new ArrayList<>();
        for (int k = 1; k <= used; k++) {
            for (int i = 0; i < disk[k][3]; i++) {
                bytes.add(disk[k][4 + i]);
            }
            if (disk[k][2] == 1) {
                redo(bytes);
                bytes = new ArrayList<>();
            }
        }
        waits = new ArrayList<>();
        cutAt = NONE;
        down = false;
        return acts;
    }

    private static int intAt(List<Integer> bytes, int i) {
        return bytes.get(i) << 24 | bytes.get(i + 1) << 16 | bytes.get(i + 2) << 8 | bytes.get(i + 3);
    }

    private void redo(List<Integer> bytes) {
        int at = 0;
        while (at < bytes.size()) {
            int act = bytes.get(at);
            int left = bytes.size() - at;
            if (act == 1) {
                int size = left < 3 ? 0 : bytes.get(at + 1) * 256 + bytes.get(at + 2);
                if (left < 3 || size > 2000 || left < 3 + size) {
                    return;
                }
                int[] text = new int[size];
                for (int i = 0; i < size; i++) {
                    text[i] = bytes.get(at + 3 + i);
                }
                try {
                    doRead(text);
                    acts++;
                } catch (Fault passed) {
                    // it would be refused
                }
                at += 3 + size;
            } else if (act == 2) {
                if (left < 9 || intAt(bytes, at + 5) != 0 && intAt(bytes, at + 5) != 1) {
                    return;
                }
                int claim = intAt(bytes, at + 1);
                if (claim >= 0 && claim < claims.size()) {
                    claims.get(claim).on = intAt(bytes, at + 5) == 1;
                    acts++;
                }
                at += 9;
            } else if (act == 3) {
                if (layers.size() < 8) {
                    doPush();
                    acts++;
                }
                at++;
            } else if (act == 4) {
                if (!layers.isEmpty()) {
                    doPop();
                    acts++;
                }
                at++;
            } else {
                return;
            }
        }
    }

    int verify() {
        if (down) {
            return DOWN;
        }
        for (int k = 1; k <= used; k++) {
            if (!right(k)) {
                return k;
            }
        }
        return NONE;
    }

    int octet(int block, int i) {
        if (block < 1 || block > 100 || i < 0 || i > 255) {
            throw new IndexOutOfBoundsException();
        }
        return disk[block][i];
    }

    int poke(int block, int i, int mask) {
        if (block < 1 || block > 100 || i < 0 || i > 255) {
            throw new IndexOutOfBoundsException();
        }
        disk[block][i] ^= mask & 255;
        return disk[block][i];
    }

    int count(int what) {
        if (what == 4) {
            return tape.length;
        }
        if (down) {
            return DOWN;
        }
        int on = 0;
        for (Claim claim : claims) {
            on += claim.on ? 1 : 0;
        }
        int[] counts = {variables.size(), claims.size(), on, layers.size(), 0, waits.size(), used, acts};
        return what >= 0 && what < 8 ? counts[what] : NONE;
    }

    // ---- texts: tokens

    private static boolean letter(int b) {
        return b >= 97 && b <= 122 || b >= 65 && b <= 90;
    }

    private static boolean digit(int b) {
        return b >= 48 && b <= 57;
    }

    private static List<Token> tokens(int[] bytes, boolean proof) {
        List<Token> all = new ArrayList<>();
        StringBuilder chars = new StringBuilder();
        for (int b : bytes) {
            chars.append((char) b);
        }
        int i = 0;
        while (i < bytes.length) {
            int b = bytes[i];
            int j = i + 1;
            String sort = "sign";
            if (b == 32 || b == 10) {
                i++;
                continue;
            } else if (letter(b)) {
                while (j < bytes.length && (letter(bytes[j]) || digit(bytes[j]))) {
                    j++;
                }
                String word = chars.substring(i, j);
                boolean reserved = WORDS.contains(word) || proof && LINE_WORDS.contains(word);
                sort = j - i > 8 ? "bad" : reserved ? "word" : "name";
            } else if (digit(b)) {
                while (j < bytes.length && digit(bytes[j])) {
                    j++;
                }
                sort = j - i > 6 || j < bytes.length && letter(bytes[j]) ? "bad" : "number";
            } else if (i + 1 < bytes.length && List.of("<=", ">=", "!=", "->", "==").contains(chars.substring(i, i + 2))) {
                j = i + 2;
            } else if ("()[],;=+-*<>".indexOf(b) < 0) {
                sort = "bad";
            }
            all.add(new Token(sort, chars.substring(i, j), i));
            i = j;
        }
        all.add(new Token("end", "", bytes.length));
        return all;
    }

    // ---- texts: the grammar

    private List<Token> tokens;
    private int at;
    /** The claim whose formula is read, or null between formulas. */
    private Claim reading;
    private int open;
    private boolean wordless;

    private Token token() {
        return tokens.get(at);
    }

    private Fault wrong(int kind) {
        return new Fault(token().sort.equals("bad") ? 1 : kind, token().place);
    }

    /** What comes is right by the kinds below 5: it is taken, if it is not one too many. */
    private void take() {
        if (reading != null) {
            boolean opens = token().is("(") || token().is("[") || token().is("not");
            if (reading.tokens.size() >= 120 || opens && open >= 12) {
                throw wrong(5);
            }
            open += opens ? 1 : token().is(")") || token().is("]") ? -1 : 0;
            reading.tokens.add(token());
        }
        at++;
    }

    private void need(String what) {
        if (!token().is(what)) {
            throw wrong(2);
        }
        take();
    }

    private void needEnd() {
        if (!token().sort.equals("end")) {
            throw wrong(2);
        }
    }

    private int variableOf(String name) {
        return variables.indexOf(name);
    }

    private int claimOf(String name) {
        for (int c = 0; c < claims.size(); c++) {
            if (claims.get(c).name.equals(name)) {
                return c;
            }
        }
        return NONE;
    }

    private void newName(boolean full) {
        if (!token().sort.equals("name")) {
            throw wrong(2);
        }
        if (variableOf(token().text) >= 0 || claimOf(token().text) >= 0) {
            throw wrong(3);
        }
        if (full) {
            throw wrong(5);
        }
    }

    private void begin(int[] text) {
        tokens = tokens(text, false);
        at = 0;
        reading = null;
    }

    private Claim readFormula() {
        reading = new Claim();
        open = 0;
        wordless = false;
        Claim claim = reading;
        claim.namePlace = token().place;
        claim.formula = formula();
        reading = null;
        return claim;
    }

    private Term readTerm() {
        reading = new Claim();
        open = 0;
        wordless = true;
        Term term = term();
        reading = null;
        return term;
    }

    private int doRead(int[] text) {
        int variablesBefore = variables.size();
        int claimsBefore = claims.size();
        try {
            begin(text);
            while (token().is("var") || token().is("claim")) {
                boolean var = token().is("var");
                take();
                if (var) {
                    do {
                        newName(variables.size() >= 4);
                        variables.add(token().text);
                        take();
                    } while (token().sort.equals("name"));
                } else {
                    newName(claims.size() >= 24);
                    Token name = token();
                    take();
                    need("=");
                    Claim claim = readFormula();
                    claim.name = name.text;
                    claim.namePlace = name.place;
                    claim.layer = layers.size();
                    claims.add(claim);
                }
                need(";");
            }
            needEnd();
            for (int c = claimsBefore; c < claims.size(); c++) {
                make(claims.get(c));
            }
            return claims.size() - claimsBefore;
        } catch (Fault told) {
            variables.subList(variablesBefore, variables.size()).clear();
            claims.subList(claimsBefore, claims.size()).clear();
            throw told;
        }
    }

    private Formula joined(String op, List<Formula> parts) {
        if (parts.size() == 1) {
            return parts.get(0);
        }
        Formula all = new Formula(op);
        all.in = parts;
        return all;
    }

    private Formula formula() {
        Formula left = side();
        if (!token().is("->") && !token().is("==")) {
            return left;
        }
        Formula all = new Formula(token().text);
        take();
        all.in = List.of(left, side());
        return all;
    }

    private Formula side() {
        List<Formula> parts = new ArrayList<>();
        parts.add(both());
        while (token().is("or")) {
            take();
            parts.add(both());
        }
        return joined("or", parts);
    }

    private Formula both() {
        List<Formula> parts = new ArrayList<>();
        parts.add(one());
        while (token().is("and")) {
            take();
            parts.add(one());
        }
        return joined("and", parts);
    }

    private Formula one() {
        Formula all = new Formula(token().text);
        if (token().is("not")) {
            take();
            all.in = List.of(one());
            open--;
            return all;
        }
        if (token().is("(")) {
            take();
            all.in = List.of(formula());
            need(")");
            return all;
        }
        if (token().is("true") || token().is("false")) {
            take();
            return all;
        }
        if (token().sort.equals("name") && claimOf(token().text) >= 0) {
            all.op = "claim";
            all.n = claimOf(token().text);
            take();
            return all;
        }
        if (token().sort.equals("number") && tokens.get(at + 1).is("divides")) {
            all.op = "divides";
            all.n = divisor();
            need("divides");
            all.right = term();
            return all;
        }
        all.left = term();
        if (!COMPARISONS.contains(token().text) || !token().sort.equals("sign")) {
            throw wrong(2);
        }
        all.op = token().text;
        take();
        all.right = term();
        return all;
    }

    private int divisor() {
        if (!token().sort.equals("number")) {
            throw wrong(2);
        }
        int n = Integer.parseInt(token().text);
        if (reading.tokens.size() < 120 && (n < 2 || n > 12)) {
            throw wrong(4);
        }
        take();
        return n;
    }

    private Term term() {
        Term all = new Term("sum");
        boolean minus = token().is("-");
        if (minus) {
            take();
        }
        all.in.add(part(minus));
        while (token().is("+") || token().is("-")) {
            minus = token().is("-");
            take();
            all.in.add(part(minus));
        }
        return all;
    }

    private Term part(boolean minus) {
        Term all = new Term("part");
        all.minus = minus;
        boolean atom = true;
        if (token().sort.equals("number")) {
            all.n = Integer.parseInt(token().text);
            take();
            atom = token().is("*");
            if (atom) {
                take();
            }
        }
        if (atom) {
            all.in.add(atom());
        }
        return all;
    }

    private Term atom() {
        if (token().sort.equals("name")) {
            if (claimOf(token().text) >= 0) {
                throw wrong(2);
            }
            if (variableOf(token().text) < 0) {
                throw wrong(3);
            }
            Term all = new Term("var");
            all.n = variableOf(token().text);
            take();
            return all;
        }
        Term all = new Term("box");
        boolean word = token().sort.equals("word") && List.of("abs", "min", "max", "div", "mod").contains(token().text);
        if (word && !wordless) {
            all.op = token().text;
            take();
        }
        need("[");
        all.in.add(term());
        if (all.op.equals("min") || all.op.equals("max")) {
            need(",");
            all.in.add(term());
        }
        if (all.op.equals("div") || all.op.equals("mod")) {
            need(",");
            all.n = divisor();
        }
        need("]");
        return all;
    }

    // ---- what terms and formulas are for values

    private static BigInteger big(long n) {
        return BigInteger.valueOf(n);
    }

    private static BigInteger[] divided(BigInteger a, int n) {
        BigInteger rest = a.mod(big(n));
        return new BigInteger[] {a.subtract(rest).divide(big(n)), rest};
    }

    private static BigInteger worth(Term t, BigInteger[] at) {
        switch (t.op) {
            case "sum": {
                BigInteger all = BigInteger.ZERO;
                for (Term part : t.in) {
                    all = all.add(worth(part, at));
                }
                return all;
            }
            case "part": {
                BigInteger n = big(t.minus ? -t.n : t.n);
                return t.in.isEmpty() ? n : n.multiply(worth(t.in.get(0), at));
            }
            case "var": return at[t.n];
            case "box": return worth(t.in.get(0), at);
            case "abs": return worth(t.in.get(0), at).abs();
            case "min": return worth(t.in.get(0), at).min(worth(t.in.get(1), at));
            case "max": return worth(t.in.get(0), at).max(worth(t.in.get(1), at));
            case "div": return divided(worth(t.in.get(0), at), t.n)[0];
            default: return divided(worth(t.in.get(0), at), t.n)[1];
        }
    }

    private boolean isSo(Formula f, BigInteger[] at) {
        switch (f.op) {
            case "true": return true;
            case "false": return false;
            case "claim": return isSo(claims.get(f.n).formula, at);
            case "(": return isSo(f.in.get(0), at);
            case "not": return !isSo(f.in.get(0), at);
            case "and": {
                boolean all = true;
                for (Formula part : f.in) {
                    all &= isSo(part, at);
                }
                return all;
            }
            case "or": {
                boolean any = false;
                for (Formula part : f.in) {
                    any |= isSo(part, at);
                }
                return any;
            }
            case "->": return !isSo(f.in.get(0), at) || isSo(f.in.get(1), at);
            case "==": return isSo(f.in.get(0), at) == isSo(f.in.get(1), at);
            case "divides": return divided(worth(f.right, at), f.n)[1].signum() == 0;
            default: return compared(f.op, worth(f.left, at).compareTo(worth(f.right, at)));
        }
    }

    private static boolean compared(String op, int sign) {
        switch (op) {
            case "<": return sign < 0;
            case "<=": return sign <= 0;
            case "=": return sign == 0;
            case ">=": return sign >= 0;
            case ">": return sign > 0;
            default: return sign != 0;
        }
    }

    // ---- cases, lines, divisors

    private Claim made;
    private Map<Term, Integer> chosen = new IdentityHashMap<>();

    private void make(Claim claim) {
        made = claim;
        claim.cases = casesOf(claim.formula);
        claim.plain = plain(claim.formula);
        if (claim.cases <= 64) {
            atomsOf(claim.formula);
        }
        if (claim.cases > 64) {
            throw new Fault(5, claim.namePlace);
        }
        if (claim.great) {
            throw new Fault(4, claim.namePlace);
        }
        if (claim.atoms.size() > 24) {
            throw new Fault(5, claim.namePlace);
        }
    }

    private static List<Term> words(Term t, List<Term> all) {
        for (Term part : t.in) {
            words(part, all);
        }
        if (List.of("abs", "min", "max", "div", "mod").contains(t.op)) {
            all.add(t);
        }
        return all;
    }

    private static List<Term> words(Formula f) {
        List<Term> all = new ArrayList<>();
        if (f.left != null) {
            words(f.left, all);
        }
        return words(f.right, all);
    }

    private static int waysOf(Term word) {
        return word.op.equals("div") || word.op.equals("mod") ? word.n : 2;
    }

    private static int casesOf(Formula f) {
        if (f.right != null) {
            long ends = 1;
            for (Term word : words(f)) {
                ends = Math.min(1000, ends * waysOf(word));
            }
            return (int) ends;
        }
        int all = 0;
        for (Formula part : f.in) {
            all += casesOf(part);
        }
        return all;
    }

    private boolean plain(Formula f) {
        switch (f.op) {
            case "claim": return claims.get(f.n).plain;
            case "true": return true;
            case "(": return plain(f.in.get(0));
            case "and": {
                boolean all = true;
                for (Formula part : f.in) {
                    all &= plain(part);
                }
                return all;
            }
            default: return COMPARISONS.contains(f.op) && !f.op.equals("!=") && words(f).isEmpty();
        }
    }

    private void atomsOf(Formula f) {
        if (f.op.equals("claim")) {
            for (Atom atom : claims.get(f.n).atoms) {
                put(atom);
            }
            made.falsehood |= claims.get(f.n).falsehood;
        } else if (f.right != null) {
            chosen = new IdentityHashMap<>();
            fall(f, words(f), 0);
        } else {
            for (Formula part : f.in) {
                atomsOf(part);
            }
        }
    }

    private void put(Atom atom) {
        if (!made.atoms.contains(atom)) {
            made.atoms.add(atom);
        }
    }

    private void fall(Formula f, List<Term> words, int k) {
        if (k == words.size()) {
            conclude(f);
            return;
        }
        Term word = words.get(k);
        for (int way = 0; way < waysOf(word); way++) {
            Form a = form(word.in.get(0));
            if (word.op.equals("abs")) {
                line(a, ">=");
            } else if (word.op.equals("min") || word.op.equals("max")) {
                Form less = added(a, form(word.in.get(1)), -1);
                see(less);
                line(less, word.op.equals("min") ? "<=" : ">=");
            } else {
                Form less = added(a, constant(way), -1);
                see(less);
                divisor(less, word.n);
            }
            chosen.put(word, way);
            fall(f, words, k + 1);
            chosen.remove(word);
        }
    }

    private void conclude(Formula f) {
        if (f.op.equals("divides")) {
            divisor(form(f.right), f.n);
            return;
        }
        Form less = added(form(f.left), form(f.right), -1);
        see(less);
        if (f.op.equals("=") || f.op.equals("!=")) {
            line(less, "<=");
            line(less, ">=");
        } else {
            line(less, f.op);
        }
    }

    private static Form constant(long n) {
        BigInteger[] none = new BigInteger[4];
        Arrays.fill(none, BigInteger.ZERO);
        return new Form(none, big(n), BigInteger.ONE);
    }

    private static Form times(Form a, BigInteger n) {
        BigInteger[] factors = new BigInteger[4];
        for (int v = 0; v < 4; v++) {
            factors[v] = a.factors[v].multiply(n);
        }
        return new Form(factors, a.number.multiply(n), a.below);
    }

    private static Form added(Form a, Form b, int sign) {
        BigInteger below = a.below.multiply(b.below).divide(a.below.gcd(b.below));
        Form x = times(a, below.divide(a.below));
        Form y = times(b, below.divide(b.below).multiply(big(sign)));
        BigInteger[] factors = new BigInteger[4];
        for (int v = 0; v < 4; v++) {
            factors[v] = x.factors[v].add(y.factors[v]);
        }
        return new Form(factors, x.number.add(y.number), below);
    }

    private static boolean above(BigInteger n, long most) {
        return n.abs().compareTo(big(most)) > 0;
    }

    private void see(Form a) {
        for (BigInteger factor : a.factors) {
            made.great |= above(factor, 1000000);
        }
        made.great |= above(a.number, 1000000);
    }

    private Form form(Term t) {
        switch (t.op) {
            case "sum": {
                Form all = form(t.in.get(0));
                for (Term part : t.in.subList(1, t.in.size())) {
                    all = added(all, form(part), 1);
                }
                see(all);
                return all;
            }
            case "part": {
                Form all = times(t.in.isEmpty() ? constant(1) : form(t.in.get(0)), big(t.minus ? -t.n : t.n));
                see(all);
                return all;
            }
            case "var": {
                Form all = constant(0);
                all.factors[t.n] = BigInteger.ONE;
                return all;
            }
            case "box": return form(t.in.get(0));
            case "abs": return times(form(t.in.get(0)), big(chosen.get(t) == 0 ? 1 : -1));
            case "min":
            case "max": return form(t.in.get(chosen.get(t)));
            case "mod": return constant(chosen.get(t));
            default: {
                Form less = added(form(t.in.get(0)), constant(chosen.get(t)), -1);
                return new Form(less.factors, less.number, less.below.multiply(big(t.n)));
            }
        }
    }

    private void line(Form a, String op) {
        boolean turned = op.startsWith(">");
        BigInteger c = turned ? a.number : a.number.negate();
        c = op.length() == 1 ? c.subtract(BigInteger.ONE) : c;
        List<Integer> factors = new ArrayList<>();
        boolean flat = true;
        for (BigInteger factor : a.factors) {
            made.great |= above(factor, 20);
            flat &= factor.signum() == 0;
            factors.add(turned ? -factor.intValue() : factor.intValue());
        }
        made.great |= above(c, 99999);
        if (flat) {
            made.falsehood |= c.signum() < 0;
        } else {
            put(new Atom(factors, c.intValue(), 0));
        }
    }

    private void divisor(Form a, int n) {
        BigInteger all = a.below.multiply(big(n));
        made.great |= above(all, 12);
        List<Integer> factors = new ArrayList<>();
        boolean flat = true;
        for (BigInteger factor : a.factors) {
            factors.add(factor.mod(all).intValue());
            flat &= factor.mod(all).signum() == 0;
        }
        if (!flat) {
            put(new Atom(factors, a.number.mod(all).intValue(), all.intValue()));
        }
    }

    // ---- texts and layers

    private int told(Fault told) {
        fault = told.kind;
        return -1000 - told.place;
    }

    private void record(int... bytes) {
        for (int b : bytes) {
            waits.add(b & 255);
        }
        acts++;
    }

    int read() {
        if (down) {
            return DOWN;
        }
        int[] text = useTape();
        int variablesBefore = variables.size();
        try {
            int told = doRead(text);
            if (!logHasRoom(3 + text.length)) {
                variables.subList(variablesBefore, variables.size()).clear();
                claims.subList(claims.size() - told, claims.size()).clear();
                return ROOM;
            }
            record(1, text.length >> 8, text.length);
            for (int b : text) {
                waits.add(b);
            }
            return told;
        } catch (Fault wrong) {
            return told(wrong);
        }
    }

    int fault() {
        return fault;
    }

    int on(int claim, boolean is) {
        if (down) {
            return DOWN;
        }
        if (claim < 0 || claim >= claims.size()) {
            return UNKNOWN;
        }
        if (!logHasRoom(9)) {
            return ROOM;
        }
        boolean was = claims.get(claim).on;
        claims.get(claim).on = is;
        record(2, claim >> 24, claim >> 16, claim >> 8, claim, 0, 0, 0, is ? 1 : 0);
        return was == is ? 0 : 1;
    }

    private void doPush() {
        Layer layer = new Layer();
        layer.variables = variables.size();
        layer.claims = claims.size();
        for (Claim claim : claims) {
            layer.on.add(claim.on);
        }
        layers.add(layer);
    }

    private void doPop() {
        Layer layer = layers.remove(layers.size() - 1);
        variables.subList(layer.variables, variables.size()).clear();
        claims.subList(layer.claims, claims.size()).clear();
        for (int c = 0; c < claims.size(); c++) {
            claims.get(c).on = layer.on.get(c);
        }
    }

    int push() {
        if (down) {
            return DOWN;
        }
        if (layers.size() >= 8 || !logHasRoom(1)) {
            return ROOM;
        }
        doPush();
        record(3);
        return layers.size();
    }

    int pop() {
        if (down) {
            return DOWN;
        }
        if (layers.isEmpty()) {
            return STATE;
        }
        if (!logHasRoom(1)) {
            return ROOM;
        }
        doPop();
        record(4);
        return layers.size();
    }

    int find() {
        if (down) {
            return DOWN;
        }
        try {
            begin(useTape());
            if (!token().sort.equals("name") || variableOf(token().text) >= 0) {
                throw wrong(2);
            }
            int claim = claimOf(token().text);
            if (claim < 0) {
                throw wrong(3);
            }
            at++;
            needEnd();
            return claim;
        } catch (Fault wrong) {
            return told(wrong);
        }
    }

    private boolean unknown(int claim) {
        return claim < 0 || claim >= claims.size();
    }

    int about(int claim, int what) {
        if (down) {
            return DOWN;
        }
        if (unknown(claim)) {
            return UNKNOWN;
        }
        Claim c = claims.get(claim);
        int[] facts = {c.on ? 1 : 0, c.atoms.size(), c.cases, c.plain ? 1 : 0, c.layer, c.tokens.size()};
        return what >= 0 && what < 6 ? facts[what] : NONE;
    }

    int atom(int claim, int k, int what) {
        if (down) {
            return DOWN;
        }
        if (unknown(claim)) {
            return UNKNOWN;
        }
        List<Atom> atoms = claims.get(claim).atoms;
        if (k < 0 || k >= atoms.size() || what < 0 || what > 5) {
            return OUTSIDE;
        }
        Atom atom = atoms.get(k);
        return what < 4 ? atom.factors.get(what) : what == 4 ? atom.number : atom.n;
    }

    /** Each pair of ( ) without which the tokens are still read alike is left out. */
    int print(int claim) {
        if (down) {
            return DOWN;
        }
        if (unknown(claim)) {
            return UNKNOWN;
        }
        List<Token> all = new ArrayList<>(claims.get(claim).tokens);
        for (int i = 0; i < all.size(); i++) {
            if (all.get(i).is("(")) {
                List<Token> less = new ArrayList<>(all);
                int depth = 0;
                int close = i;
                do {
                    depth += all.get(close).is("(") ? 1 : all.get(close).is(")") ? -1 : 0;
                    close++;
                } while (depth > 0);
                less.remove(close - 1);
                less.remove(i);
                if (readAgain(all).equals(readAgain(less))) {
                    all = less;
                    i--;
                }
            }
        }
        StringBuilder text = new StringBuilder();
        for (Token token : all) {
            text.append(text.length() == 0 ? "" : " ").append(token.text);
        }
        printed = text.toString();
        return printed.length();
    }

    private String readAgain(List<Token> formula) {
        tokens = new ArrayList<>(formula);
        tokens.add(new Token("end", "", 0));
        at = 0;
        try {
            Claim claim = readFormula();
            needEnd();
            return claim.formula.told();
        } catch (Fault none) {
            return "none";
        }
    }

    int printed(int i) {
        return i >= 0 && i < printed.length() ? printed.charAt(i) : NONE;
    }

    int holds(int claim, long a, long b, long c, long d) {
        if (down) {
            return DOWN;
        }
        if (unknown(claim)) {
            return UNKNOWN;
        }
        BigInteger[] at = {big(a), big(b), big(c), big(d)};
        for (int v = 0; v < variables.size(); v++) {
            if (above(at[v], 1000000000000L)) {
                return OUTSIDE;
            }
        }
        return isSo(claims.get(claim).formula, at) ? 1 : 0;
    }

    // ---- places

    private static final class Explored {
        List<BigInteger[]> values = new ArrayList<>();
        List<Integer> bits = new ArrayList<>();
        List<int[]> next = new ArrayList<>();
    }

    private List<Claim> onClaims() {
        List<Claim> all = new ArrayList<>();
        for (Claim claim : claims) {
            if (claim.on) {
                all.add(claim);
            }
        }
        return all;
    }

    private static List<List<Integer>> halved(List<List<Integer>> place, List<Atom> atoms, int letter) {
        List<List<Integer>> all = new ArrayList<>();
        for (int k = 0; k < place.size(); k++) {
            List<Integer> is = place.get(k);
            if (atoms.get(k).n == 0) {
                int sum = 0;
                for (int v = 0; v < 4; v++) {
                    sum += (letter >> v & 1) * atoms.get(k).factors.get(v);
                }
                all.add(List.of(Math.floorDiv(is.get(0) - sum, 2)));
            } else if (is.size() == 1) {
                all.add(is);
            } else {
                int n = is.get(0);
                int m = is.get(5);
                for (int v = 0; v < 4; v++) {
                    m += (letter >> v & 1) * is.get(1 + v);
                }
                if (n % 2 == 0 && m % 2 == 1) {
                    all.add(List.of(-1));
                } else if (n == 2) {
                    all.add(List.of(-2));
                } else if (n % 2 == 0) {
                    int h = n / 2;
                    all.add(List.of(h, is.get(1) % h, is.get(2) % h, is.get(3) % h, is.get(4) % h, m / 2 % h));
                } else {
                    all.add(List.of(n, is.get(1), is.get(2), is.get(3), is.get(4), (m % 2 == 0 ? m / 2 : (m + n) / 2) % n));
                }
            }
        }
        return all;
    }

    /** null: HARD. */
    private Explored explore(List<Claim> work) {
        List<Atom> atoms = new ArrayList<>();
        for (Claim claim : work) {
            for (Atom atom : claim.atoms) {
                if (!atoms.contains(atom)) {
                    atoms.add(atom);
                }
            }
        }
        if (atoms.size() > 32) {
            return null;
        }
        List<List<List<Integer>>> places = new ArrayList<>();
        Map<List<List<Integer>>, Integer> known = new HashMap<>();
        List<List<Integer>> first = new ArrayList<>();
        for (Atom atom : atoms) {
            List<Integer> f = atom.factors;
            first.add(atom.n == 0 ? List.of(atom.number) : List.of(atom.n, f.get(0), f.get(1), f.get(2), f.get(3), atom.number));
        }
        Explored all = new Explored();
        places.add(first);
        known.put(first, 0);
        all.values.add(new BigInteger[] {BigInteger.ZERO, BigInteger.ZERO, BigInteger.ZERO, BigInteger.ZERO});
        all.bits.add(0);
        int letters = 1 << variables.size();
        for (int p = 0; p < places.size(); p++) {
            int[] next = new int[letters];
            for (int letter = 0; letter < letters; letter++) {
                List<List<Integer>> place = halved(places.get(p), atoms, letter);
                Integer old = known.get(place);
                if (old == null) {
                    old = places.size();
                    if (old >= 3000) {
                        return null;
                    }
                    places.add(place);
                    known.put(place, old);
                    all.values.add(signed(all, p, letter, 1));
                    all.bits.add(all.bits.get(p) + 1);
                }
                next[letter] = old;
            }
            all.next.add(next);
        }
        return all;
    }

    /** Values whose lowest bits led to a place, with one more letter of bits, or, with sign -1, of signs. */
    private static BigInteger[] signed(Explored all, int p, int letter, int sign) {
        BigInteger[] at = all.values.get(p).clone();
        for (int v = 0; v < 4; v++) {
            if ((letter >> v & 1) == 1) {
                at[v] = at[v].add(BigInteger.ONE.shiftLeft(all.bits.get(p)).multiply(big(sign)));
            }
        }
        return at;
    }

    /** Of each place: a bit for each letter of signs for which all of some claims are so, and one more is not. */
    private int[] ends(Explored all, List<Claim> so, Claim not) {
        int[] ends = new int[all.next.size()];
        for (int p = 0; p < ends.length; p++) {
            for (int letter = 0; letter < 1 << variables.size(); letter++) {
                BigInteger[] at = signed(all, p, letter, -1);
                boolean is = not == null || !isSo(not.formula, at);
                for (Claim claim : so) {
                    is = is && isSo(claim.formula, at);
                }
                ends[p] |= is ? 1 << letter : 0;
            }
        }
        return ends;
    }

    /** Tells the least values, if there are any. */
    private boolean tellLeast(Explored all, int[] ends) {
        int[] far = new int[ends.length];
        for (int p = 0; p < ends.length; p++) {
            far[p] = ends[p] != 0 ? 0 : Integer.MAX_VALUE;
        }
        for (boolean more = true; more; ) {
            more = false;
            for (int p = 0; p < ends.length; p++) {
                for (int q : all.next.get(p)) {
                    if (far[q] < Integer.MAX_VALUE && far[q] + 1 < far[p]) {
                        far[p] = far[q] + 1;
                        more = true;
                    }
                }
            }
        }
        if (far[0] == Integer.MAX_VALUE) {
            return false;
        }
        height = far[0];
        BigInteger[] told = {BigInteger.ZERO, BigInteger.ZERO, BigInteger.ZERO, BigInteger.ZERO};
        int p = 0;
        for (int bit = 0; bit <= height; bit++) {
            int letter = 0;
            while (bit < height ? far[all.next.get(p)[letter]] != height - bit - 1 : (ends[p] >> letter & 1) == 0) {
                letter++;
            }
            for (int v = 0; v < 4; v++) {
                BigInteger add = BigInteger.ONE.shiftLeft(bit).multiply(big(letter >> v & 1));
                told[v] = bit < height ? told[v].add(add) : told[v].subtract(add);
            }
            p = bit < height ? all.next.get(p)[letter] : p;
        }
        values = new ArrayList<>(Arrays.asList(told).subList(0, variables.size()));
        return true;
    }

    int decide() {
        if (down) {
            return DOWN;
        }
        Explored all = explore(onClaims());
        return all == null ? HARD : tellLeast(all, ends(all, onClaims(), null)) ? 1 : 0;
    }

    int follows() {
        if (down) {
            return DOWN;
        }
        try {
            begin(useTape());
            Claim asked = readFormula();
            needEnd();
            make(asked);
            List<Claim> work = onClaims();
            work.add(asked);
            Explored all = explore(work);
            return all == null ? HARD : tellLeast(all, ends(all, onClaims(), asked)) ? 0 : 1;
        } catch (Fault wrong) {
            return told(wrong);
        }
    }

    long value(int variable) {
        if (values == null || variable < 0 || variable >= values.size()) {
            throw new IndexOutOfBoundsException();
        }
        return values.get(variable).longValueExact();
    }

    int height() {
        return height;
    }

    int extreme(boolean greatest) {
        if (down) {
            return DOWN;
        }
        try {
            begin(useTape());
            int place = token().place;
            Term term = readTerm();
            Claim asked = null;
            if (token().is("if")) {
                at++;
                asked = readFormula();
            }
            needEnd();
            Form goal = goalOf(term);
            BigInteger sizes = BigInteger.ZERO;
            for (BigInteger factor : goal.factors) {
                sizes = sizes.add(factor.abs());
            }
            if (made.great || above(sizes, 12)) {
                throw new Fault(4, place);
            }
            List<Claim> work = onClaims();
            if (asked != null) {
                make(asked);
                work.add(asked);
            }
            Explored all = explore(work);
            return all == null ? HARD : tellExtreme(all, ends(all, work, null), goal, greatest);
        } catch (Fault wrong) {
            return told(wrong);
        }
    }

    private Form goalOf(Term term) {
        made = new Claim();
        return form(term);
    }

    private static BigInteger goalAt(Form goal, int letter) {
        BigInteger all = BigInteger.ZERO;
        for (int v = 0; v < 4; v++) {
            all = all.add(goal.factors[v].multiply(big(letter >> v & 1)));
        }
        return all;
    }

    private static BigInteger greater(BigInteger a, BigInteger b) {
        return a == null || b != null && b.compareTo(a) > 0 ? b : a;
    }

    /** The greatest value over models of height 100 at most and that over those of height 140: they differ if it has no end. */
    private int tellExtreme(Explored all, int[] ends, Form term, boolean greatest) {
        Form goal = times(term, big(greatest ? 1 : -1));
        BigInteger[] most = new BigInteger[ends.length];
        BigInteger middle = null;
        for (int m = 0; m <= 140; m++) {
            BigInteger[] now = new BigInteger[ends.length];
            for (int p = 0; p < ends.length; p++) {
                for (int letter = 0; letter < 1 << variables.size(); letter++) {
                    BigInteger weight = goalAt(goal, letter);
                    if (m == 0) {
                        now[p] = (ends[p] >> letter & 1) == 1 ? greater(now[p], weight.negate()) : now[p];
                    } else if (most[all.next.get(p)[letter]] != null) {
                        now[p] = greater(now[p], most[all.next.get(p)[letter]].shiftLeft(1).add(weight));
                    }
                }
            }
            most = now;
            middle = m == 100 ? most[0] : middle;
        }
        if (most[0] == null) {
            return 0;
        }
        if (!most[0].equals(middle)) {
            return 2;
        }
        number = most[0].multiply(big(greatest ? 1 : -1)).add(term.number).longValueExact();
        return 1;
    }

    long number() {
        return number;
    }

    int many() {
        if (down) {
            return DOWN;
        }
        Explored all = explore(onClaims());
        if (all == null) {
            return HARD;
        }
        int[] ends = ends(all, onClaims(), null);
        BigInteger[] many = new BigInteger[ends.length];
        BigInteger middle = null;
        for (int m = 0; m <= 140; m++) {
            BigInteger[] now = new BigInteger[ends.length];
            for (int p = 0; p < ends.length; p++) {
                now[p] = m == 0 ? big(Integer.bitCount(ends[p])) : BigInteger.ZERO;
                for (int letter = 0; letter < 1 << variables.size() && m > 0; letter++) {
                    now[p] = now[p].add(many[all.next.get(p)[letter]]);
                }
            }
            many = now;
            middle = m == 100 ? many[0] : middle;
        }
        return !many[0].equals(middle) ? -2 : many[0].min(big(1000000000)).intValue();
    }

    /** -1: HARD. */
    private int hasModel(List<Claim> so) {
        Explored all = explore(so);
        if (all == null) {
            return -1;
        }
        for (int end : ends(all, so, null)) {
            if (end != 0) {
                return 1;
            }
        }
        return 0;
    }

    int core() {
        if (down) {
            return DOWN;
        }
        List<Claim> left = onClaims();
        int has = hasModel(left);
        if (has != 0) {
            core = has == 1 ? new ArrayList<>() : core;
            return has == 1 ? 0 : HARD;
        }
        for (int k = left.size() - 1; k >= 0; k--) {
            List<Claim> less = new ArrayList<>(left);
            less.remove(k);
            int without = hasModel(less);
            if (without < 0) {
                return HARD;
            }
            left = without == 0 ? less : left;
        }
        core = new ArrayList<>();
        for (Claim claim : left) {
            core.add(claims.indexOf(claim));
        }
        return core.size();
    }

    int inCore(int k) {
        return k >= 0 && k < core.size() ? core.get(k) : NONE;
    }

    int alike(int i, int j) {
        if (down) {
            return DOWN;
        }
        if (unknown(i) || unknown(j)) {
            return UNKNOWN;
        }
        Explored all = explore(List.of(claims.get(i), claims.get(j)));
        if (all == null) {
            return HARD;
        }
        return Arrays.equals(ends(all, List.of(claims.get(i)), null), ends(all, List.of(claims.get(j)), null)) ? 1 : 0;
    }

    int places() {
        if (down) {
            return DOWN;
        }
        Explored all = explore(onClaims());
        return all == null ? HARD : all.next.size();
    }

    int own(int claim) {
        if (down) {
            return DOWN;
        }
        if (unknown(claim)) {
            return UNKNOWN;
        }
        Explored all = explore(List.of(claims.get(claim)));
        if (all == null) {
            return HARD;
        }
        int[] ends = ends(all, List.of(claims.get(claim)), null);
        int[] sort = ends.clone();
        int sorts = 0;
        while (true) {
            Map<List<Integer>, Integer> finer = new HashMap<>();
            int[] now = new int[sort.length];
            for (int p = 0; p < sort.length; p++) {
                List<Integer> key = new ArrayList<>();
                key.add(sort[p]);
                for (int q : all.next.get(p)) {
                    key.add(sort[q]);
                }
                finer.putIfAbsent(key, finer.size());
                now[p] = finer.get(key);
            }
            sort = now;
            if (finer.size() == sorts) {
                break;
            }
            sorts = finer.size();
        }
        Map<Integer, Integer> state = new HashMap<>();
        List<Integer> samples = new ArrayList<>();
        state.put(sort[0], 0);
        samples.add(0);
        halves = new ArrayList<>();
        takes = new ArrayList<>();
        for (int k = 0; k < samples.size(); k++) {
            int[] half = new int[1 << variables.size()];
            int[] take = new int[half.length];
            for (int letter = 0; letter < half.length; letter++) {
                int q = all.next.get(samples.get(k))[letter];
                if (!state.containsKey(sort[q])) {
                    state.put(sort[q], samples.size());
                    samples.add(q);
                }
                half[letter] = state.get(sort[q]);
                take[letter] = ends[samples.get(k)] >> letter & 1;
            }
            halves.add(half);
            takes.add(take);
        }
        return samples.size();
    }

    private static int ownAt(List<int[]> own, int k, int letter) {
        if (k < 0 || k >= own.size() || letter < 0 || letter >= own.get(k).length) {
            throw new IndexOutOfBoundsException();
        }
        return own.get(k)[letter];
    }

    int half(int k, int letter) {
        return ownAt(halves, k, letter);
    }

    int takes(int k, int letter) {
        return ownAt(takes, k, letter);
    }

    // ---- relaxed, searched

    private record Fraction(BigInteger over, BigInteger below) {
        static Fraction of(BigInteger over, BigInteger below) {
            BigInteger common = over.gcd(below).max(BigInteger.ONE);
            common = below.signum() < 0 ? common.negate() : common;
            return new Fraction(over.divide(common), below.divide(common));
        }

        static Fraction of(BigInteger n) {
            return new Fraction(n, BigInteger.ONE);
        }

        Fraction plus(Fraction b) {
            return of(over.multiply(b.below).add(b.over.multiply(below)), below.multiply(b.below));
        }

        Fraction minus(Fraction b) {
            return plus(new Fraction(b.over.negate(), b.below));
        }

        Fraction times(Fraction b) {
            return of(over.multiply(b.over), below.multiply(b.below));
        }

        Fraction by(Fraction b) {
            return of(over.multiply(b.below), below.multiply(b.over));
        }

        int sign() {
            return over.signum();
        }

        BigInteger down() {
            BigInteger[] parts = over.divideAndRemainder(below);
            return parts[1].signum() < 0 ? parts[0].subtract(BigInteger.ONE) : parts[0];
        }

        boolean whole() {
            return below.equals(BigInteger.ONE);
        }
    }

    private static final Fraction ZERO = Fraction.of(BigInteger.ZERO);
    private static final Fraction ONE = Fraction.of(BigInteger.ONE);

    /** A row: factors of the variables, and behind them c. */
    private static BigInteger[] unit(int size, int v, int sign, BigInteger c) {
        BigInteger[] row = new BigInteger[size + 1];
        Arrays.fill(row, BigInteger.ZERO);
        row[v] = big(sign);
        row[size] = c;
        return row;
    }

    private static BigInteger[] turned(BigInteger[] row) {
        BigInteger[] all = new BigInteger[row.length];
        for (int i = 0; i < row.length; i++) {
            all[i] = row[i].negate();
        }
        return all;
    }

    /**
     * The simplex with Bland's rule: what the greatest value of a goal at the points of rows is; "none" without points,
     * "endless" if it has no end. Each variable is the difference of two that are 0 or more.
     */
    private static Object greatest(List<BigInteger[]> rows, Fraction[] goal) {
        int n = goal.length;
        int m = rows.size();
        int wide = 2 * n + m + 1;
        // columns: x+, x-, slacks, one artificial; then the right side
        Fraction[][] table = new Fraction[m][wide + 1];
        int[] basis = new int[m];
        int worst = -1;
        for (int r = 0; r < m; r++) {
            Arrays.fill(table[r], ZERO);
            for (int v = 0; v < n; v++) {
                table[r][v] = Fraction.of(rows.get(r)[v]);
                table[r][n + v] = ZERO.minus(table[r][v]);
            }
            table[r][2 * n + r] = ONE;
            table[r][wide - 1] = ZERO.minus(ONE);
            table[r][wide] = Fraction.of(rows.get(r)[n]);
            basis[r] = 2 * n + r;
            if (table[r][wide].sign() < 0 && (worst < 0 || table[r][wide].minus(table[worst][wide]).sign() < 0)) {
                worst = r;
            }
        }
        if (worst >= 0) {
            pivot(table, basis, worst, wide - 1);
            Fraction[] cost = new Fraction[wide];
            Arrays.fill(cost, ZERO);
            cost[wide - 1] = ZERO.minus(ONE);
            if (!run(table, basis, cost, wide)) {
                throw new IllegalStateException("the first phase has an end");
            }
            for (int r = 0; r < m; r++) {
                if (basis[r] == wide - 1) {
                    if (table[r][wide].sign() != 0) {
                        return "none";
                    }
                    for (int j = 0; j < wide - 1; j++) {
                        if (table[r][j].sign() != 0) {
                            pivot(table, basis, r, j);
                            break;
                        }
                    }
                }
            }
        }
        Fraction[] cost = new Fraction[wide];
        Arrays.fill(cost, ZERO);
        for (int v = 0; v < n; v++) {
            cost[v] = goal[v];
            cost[n + v] = ZERO.minus(goal[v]);
        }
        if (!run(table, basis, cost, wide - 1)) {
            return "endless";
        }
        Fraction value = ZERO;
        for (int r = 0; r < m; r++) {
            value = value.plus(cost[basis[r]].times(table[r][wide]));
        }
        return value;
    }

    private static boolean run(Fraction[][] table, int[] basis, Fraction[] cost, int columns) {
        int right = table.length == 0 ? 0 : table[0].length - 1;
        while (true) {
            int coming = -1;
            for (int j = 0; j < columns && coming < 0; j++) {
                Fraction gain = cost[j];
                for (int r = 0; r < table.length; r++) {
                    if (cost[basis[r]].sign() != 0 && table[r][j].sign() != 0) {
                        gain = gain.minus(cost[basis[r]].times(table[r][j]));
                    }
                }
                coming = gain.sign() > 0 ? j : -1;
            }
            if (coming < 0) {
                return true;
            }
            int leaving = -1;
            for (int r = 0; r < table.length; r++) {
                if (table[r][coming].sign() > 0) {
                    int sign = leaving < 0 ? -1
                        : table[r][right].by(table[r][coming]).minus(table[leaving][right].by(table[leaving][coming])).sign();
                    if (sign < 0 || sign == 0 && basis[r] < basis[leaving]) {
                        leaving = r;
                    }
                }
            }
            if (leaving < 0) {
                return false;
            }
            pivot(table, basis, leaving, coming);
        }
    }

    private static void pivot(Fraction[][] table, int[] basis, int leaving, int coming) {
        Fraction by = table[leaving][coming];
        for (int j = 0; j < table[leaving].length; j++) {
            table[leaving][j] = table[leaving][j].by(by);
        }
        for (int r = 0; r < table.length; r++) {
            Fraction times = table[r][coming];
            if (r != leaving && times.sign() != 0) {
                for (int j = 0; j < table[r].length; j++) {
                    if (table[leaving][j].sign() != 0) {
                        table[r][j] = table[r][j].minus(times.times(table[leaving][j]));
                    }
                }
            }
        }
        basis[leaving] = coming;
    }

    private static final class Vertex {
        int answer;
        Fraction value;
        List<Fraction> at = new ArrayList<>();
    }

    /** Rows with factors in fractions are none: a value is held by a row over its denominator. */
    private static void hold(List<BigInteger[]> rows, Fraction[] goal, Fraction value) {
        BigInteger[] row = new BigInteger[goal.length + 1];
        for (int v = 0; v < goal.length; v++) {
            row[v] = goal[v].over.multiply(value.below);
        }
        row[goal.length] = value.over;
        rows.add(row);
        rows.add(turned(row));
    }

    private Vertex vertex(List<BigInteger[]> rows, Form term) {
        int n = variables.size();
        Vertex told = new Vertex();
        List<BigInteger[]> all = new ArrayList<>(rows);
        Fraction[] goal = new Fraction[n];
        for (int v = 0; v < n; v++) {
            goal[v] = Fraction.of(term.factors[v]);
        }
        Object value = greatest(all, goal);
        if (value.equals("none")) {
            return told;
        }
        if (value.equals("endless")) {
            told.answer = 2;
            return told;
        }
        told.value = ((Fraction) value).plus(Fraction.of(term.number));
        hold(all, goal, (Fraction) value);
        for (int v = 0; v < n; v++) {
            Arrays.fill(goal, ZERO);
            goal[v] = ZERO.minus(ONE);
            Object least = greatest(all, goal);
            if (least.equals("endless")) {
                told.answer = 3;
                return told;
            }
            hold(all, goal, (Fraction) least);
            told.at.add(ZERO.minus((Fraction) least));
        }
        told.answer = 1;
        return told;
    }

    private Form askedTerm() {
        begin(useTape());
        int place = token().place;
        Term term = readTerm();
        needEnd();
        Form goal = goalOf(term);
        boolean great = made.great || above(goal.number, 99999);
        for (BigInteger factor : goal.factors) {
            great |= above(factor, 20);
        }
        if (great) {
            throw new Fault(4, place);
        }
        return goal;
    }

    private boolean allPlain() {
        for (Claim claim : onClaims()) {
            if (!claim.plain) {
                return false;
            }
        }
        return true;
    }

    /** null: HARD. */
    private List<BigInteger[]> rows() {
        List<BigInteger[]> rows = new ArrayList<>();
        List<List<Integer>> known = new ArrayList<>();
        for (Claim claim : onClaims()) {
            List<List<Integer>> more = new ArrayList<>();
            for (Atom atom : claim.atoms) {
                List<Integer> row = new ArrayList<>(atom.factors.subList(0, variables.size()));
                row.add(atom.number);
                more.add(row);
            }
            if (claim.falsehood) {
                List<Integer> row = new ArrayList<>(java.util.Collections.nCopies(variables.size(), 0));
                row.add(-1);
                more.add(row);
            }
            for (List<Integer> row : more) {
                if (!known.contains(row)) {
                    known.add(row);
                    BigInteger[] big = new BigInteger[row.size()];
                    for (int i = 0; i < row.size(); i++) {
                        big[i] = big(row.get(i));
                    }
                    rows.add(big);
                }
            }
        }
        return rows.size() > 40 ? null : rows;
    }

    int relaxed() {
        if (down) {
            return DOWN;
        }
        if (!allPlain()) {
            useTape();
            return STATE;
        }
        try {
            Form goal = askedTerm();
            List<BigInteger[]> rows = rows();
            if (rows == null) {
                return HARD;
            }
            Vertex told = vertex(rows, goal);
            if (told.answer == 1 || told.answer == 3) {
                fractions = new ArrayList<>();
                fractions.add(told.value.over.longValueExact());
                fractions.add(told.value.below.longValueExact());
                for (Fraction at : told.answer == 1 ? told.at : new ArrayList<Fraction>()) {
                    fractions.add(at.over.longValueExact());
                    fractions.add(at.below.longValueExact());
                }
            }
            return told.answer;
        } catch (Fault wrong) {
            return told(wrong);
        }
    }

    long fraction(int what) {
        if (what < 0 || what >= fractions.size()) {
            throw new IndexOutOfBoundsException();
        }
        return fractions.get(what);
    }

    int search(int way, int most) {
        if (down) {
            return DOWN;
        }
        if (way < 0 || way > 1 || most < 1 || most > 100) {
            useTape();
            return OUTSIDE;
        }
        if (!allPlain()) {
            useTape();
            return STATE;
        }
        try {
            Form goal = askedTerm();
            List<BigInteger[]> rows = rows();
            if (rows == null) {
                return HARD;
            }
            return seek(rows, goal, way, most);
        } catch (Fault wrong) {
            return told(wrong);
        }
    }

    private int seek(List<BigInteger[]> rows, Form goal, int way, int most) {
        List<List<BigInteger[]>> pile = new ArrayList<>();
        pile.add(rows);
        best = new long[7];
        boolean has = false;
        while (!pile.isEmpty()) {
            if (best[1] == most) {
                return 2;
            }
            best[1]++;
            List<BigInteger[]> node = pile.remove(pile.size() - 1);
            for (int cuts = 0; ; cuts++) {
                Vertex v = vertex(node, goal);
                if (v.answer == 0) {
                    break;
                }
                if (v.answer != 1) {
                    return 3;
                }
                if (has && v.value.down().compareTo(big(best[0])) <= 0) {
                    break;
                }
                int x = 0;
                while (x < v.at.size() && v.at.get(x).whole()) {
                    x++;
                }
                if (x == v.at.size()) {
                    has = true;
                    best[0] = v.value.over.longValueExact();
                    for (int i = 0; i < x; i++) {
                        best[3 + i] = v.at.get(i).over.longValueExact();
                    }
                    break;
                }
                List<BigInteger[]> more = new ArrayList<>();
                if (way == 1 && cuts < 3) {
                    more.add(cutOf(node, v.at, x));
                } else {
                    BigInteger down = v.at.get(x).down();
                    more.add(unit(v.at.size(), x, -1, down.add(BigInteger.ONE).negate()));
                    more.add(unit(v.at.size(), x, 1, down));
                }
                for (BigInteger[] row : more) {
                    for (int i = 0; i < row.length; i++) {
                        if (above(row[i], i < v.at.size() ? 200 : 100000000)) {
                            return 3;
                        }
                    }
                }
                if (more.size() == 1) {
                    best[2]++;
                    node = new ArrayList<>(node);
                    node.add(more.get(0));
                } else {
                    for (BigInteger[] row : more) {
                        List<BigInteger[]> half = new ArrayList<>(node);
                        half.add(row);
                        pile.add(half);
                    }
                    break;
                }
            }
        }
        return has ? 1 : 0;
    }

    /** Gauss: the multiples of some rows whose sum is a row; null if there are none. */
    private static Fraction[] multiples(List<BigInteger[]> of, BigInteger[] row, int n) {
        int m = of.size();
        Fraction[][] table = new Fraction[n][m + 1];
        for (int v = 0; v < n; v++) {
            for (int k = 0; k < m; k++) {
                table[v][k] = Fraction.of(of.get(k)[v]);
            }
            table[v][m] = Fraction.of(row[v]);
        }
        int[] at = new int[m];
        int done = 0;
        for (int k = 0; k < m; k++) {
            int r = done;
            while (r < n && table[r][k].sign() == 0) {
                r++;
            }
            if (r == n) {
                throw new IllegalStateException("rows of a basis are no sums of one another");
            }
            Fraction[] swap = table[r];
            table[r] = table[done];
            table[done] = swap;
            for (int s = 0; s < n; s++) {
                if (s != done && table[s][k].sign() != 0) {
                    Fraction times = table[s][k].by(table[done][k]);
                    for (int j = 0; j <= m; j++) {
                        table[s][j] = table[s][j].minus(times.times(table[done][j]));
                    }
                }
            }
            at[k] = done++;
        }
        for (int s = done; s < n; s++) {
            if (table[s][m].sign() != 0) {
                return null;
            }
        }
        Fraction[] all = new Fraction[m];
        for (int k = 0; k < m; k++) {
            all[k] = table[at[k]][m].by(table[at[k]][k]);
        }
        return all;
    }

    private static BigInteger[] cutOf(List<BigInteger[]> rows, List<Fraction> at, int x) {
        int n = at.size();
        List<BigInteger[]> basis = new ArrayList<>();
        for (BigInteger[] row : rows) {
            Fraction sum = ZERO;
            for (int v = 0; v < n; v++) {
                sum = sum.plus(at.get(v).times(Fraction.of(row[v])));
            }
            boolean equal = sum.minus(Fraction.of(row[n])).sign() == 0;
            boolean zero = true;
            for (int v = 0; v < n; v++) {
                zero &= row[v].signum() == 0;
            }
            if (equal && !zero && multiples(basis, row, n) == null) {
                basis.add(row);
            }
        }
        Fraction[] parts = multiples(basis, unit(n, x, 1, BigInteger.ZERO), n);
        Fraction[] sums = new Fraction[n + 1];
        Arrays.fill(sums, ZERO);
        for (int k = 0; k < basis.size(); k++) {
            Fraction rest = parts[k].minus(Fraction.of(parts[k].down()));
            for (int i = 0; i <= n; i++) {
                sums[i] = sums[i].plus(rest.times(Fraction.of(basis.get(k)[i])));
            }
        }
        BigInteger[] cut = new BigInteger[n + 1];
        BigInteger common = BigInteger.ZERO;
        for (int v = 0; v < n; v++) {
            if (!sums[v].whole()) {
                throw new IllegalStateException("the factors of a cut are whole");
            }
            cut[v] = sums[v].over;
            common = common.gcd(cut[v]);
        }
        for (int v = 0; v < n; v++) {
            cut[v] = cut[v].divide(common);
        }
        cut[n] = Fraction.of(sums[n].down(), common).down();
        return cut;
    }

    long best(int what) {
        if (best == null || what < 0 || what > 6) {
            throw new IndexOutOfBoundsException();
        }
        return best[what];
    }

    // ---- proofs

    private static final class Case {
        int variable;
        BigInteger number;
        int begins;
        boolean second;
    }

    int prove() {
        if (down) {
            return DOWN;
        }
        tokens = tokens(useTape(), true);
        at = 0;
        reading = null;
        lines = new ArrayList<>();
        List<Boolean> known = new ArrayList<>();
        List<Case> cases = new ArrayList<>();
        try {
            while (!token().sort.equals("end")) {
                proofLine(known, cases);
            }
        } catch (Fault wrong) {
            return told(wrong);
        }
        return cases.isEmpty() && latestFalse() ? 1 : 0;
    }

    private boolean latestFalse() {
        if (lines.isEmpty()) {
            return false;
        }
        BigInteger[] row = lines.get(lines.size() - 1);
        return row[0].signum() == 0 && row[1].signum() == 0 && row[2].signum() == 0 && row[3].signum() == 0 && row[4].signum() < 0;
    }

    private Token needSort(String sort) {
        if (!token().sort.equals(sort)) {
            throw wrong(2);
        }
        return tokens.get(at++);
    }

    private void proofLine(List<Boolean> known, List<Case> cases) {
        Token first = token();
        if (!first.sort.equals("word") || !LINE_WORDS.contains(first.text)) {
            throw wrong(2);
        }
        at++;
        String name = "";
        boolean minus = false;
        List<BigInteger> n = new ArrayList<>();
        int numbers = List.of(1, 4, 2, 1, 0, 0).get(LINE_WORDS.indexOf(first.text));
        if (first.text.equals("of") || first.text.equals("case")) {
            name = needSort("name").text;
        }
        if (first.text.equals("case") && token().is("-")) {
            minus = true;
            at++;
        }
        for (int k = 0; k < numbers; k++) {
            n.add(new BigInteger(needSort("number").text));
        }
        need(";");
        BigInteger[] row = lines.size() >= 200 ? null : lineOf(first.text, name, minus, n, known, cases);
        for (int i = 0; row != null && i < 5; i++) {
            if (above(row[i], 1000000000000L)) {
                row = null;
            }
        }
        if (row == null) {
            throw new Fault(5, first.place);
        }
        lines.add(row);
        known.add(true);
    }

    private static boolean isKnown(BigInteger i, List<Boolean> known) {
        return i.signum() > 0 && i.compareTo(big(known.size())) <= 0 && known.get(i.intValue() - 1);
    }

    private BigInteger[] lineOf(String word, String name, boolean minus, List<BigInteger> n, List<Boolean> known, List<Case> cases) {
        BigInteger[] row = new BigInteger[5];
        Arrays.fill(row, BigInteger.ZERO);
        Case latest = cases.isEmpty() ? null : cases.get(cases.size() - 1);
        switch (word) {
            case "of": {
                Claim claim = claimOf(name) < 0 ? null : claims.get(claimOf(name));
                if (claim == null || !claim.on || !claim.plain || n.get(0).signum() == 0 || n.get(0).compareTo(big(claim.atoms.size())) > 0) {
                    return null;
                }
                Atom atom = claim.atoms.get(n.get(0).intValue() - 1);
                for (int v = 0; v < 4; v++) {
                    row[v] = big(atom.factors.get(v));
                }
                row[4] = big(atom.number);
                return row;
            }
            case "sum": {
                if (!isKnown(n.get(1), known) || !isKnown(n.get(3), known)) {
                    return null;
                }
                for (int i = 0; i < 5; i++) {
                    row[i] = n.get(0).multiply(lines.get(n.get(1).intValue() - 1)[i]).add(n.get(2).multiply(lines.get(n.get(3).intValue() - 1)[i]));
                }
                return row;
            }
            case "cut": {
                if (!isKnown(n.get(0), known) || n.get(1).signum() == 0) {
                    return null;
                }
                for (int i = 0; i < 5; i++) {
                    Fraction part = Fraction.of(lines.get(n.get(0).intValue() - 1)[i], n.get(1));
                    if (i < 4 && !part.whole()) {
                        return null;
                    }
                    row[i] = part.down();
                }
                return row;
            }
            case "case": {
                if (variableOf(name) < 0 || cases.size() >= 20) {
                    return null;
                }
                Case more = new Case();
                more.variable = variableOf(name);
                more.number = minus ? n.get(0).negate() : n.get(0);
                more.begins = lines.size();
                cases.add(more);
                row[more.variable] = BigInteger.ONE;
                row[4] = more.number;
                return row;
            }
            default: {
                boolean second = word.equals("done");
                if (latest == null || latest.second != second || !latestFalse()) {
                    return null;
                }
                for (int i = latest.begins; i < lines.size(); i++) {
                    known.set(i, false);
                }
                latest.begins = lines.size();
                latest.second = true;
                if (second) {
                    cases.remove(cases.size() - 1);
                    row[4] = big(-1);
                } else {
                    row[latest.variable] = big(-1);
                    row[4] = latest.number.add(BigInteger.ONE).negate();
                }
                return row;
            }
        }
    }

    long line(int i, int v) {
        if (i < 1 || i > lines.size() || v < 0 || v > 4) {
            throw new IndexOutOfBoundsException();
        }
        return lines.get(i - 1)[v].longValueExact();
    }

    int bound(int i) {
        if (down) {
            return DOWN;
        }
        List<Atom> at = new ArrayList<>();
        long greatest = 1;
        for (Claim claim : onClaims()) {
            for (Atom atom : claim.atoms) {
                if (atom.n == 0 && !at.contains(atom)) {
                    at.add(atom);
                    greatest = Math.max(greatest, Math.abs((long) atom.number));
                    for (int factor : atom.factors) {
                        greatest = Math.max(greatest, Math.abs(factor));
                    }
                }
            }
        }
        if (at.isEmpty() || i < 0) {
            return 0;
        }
        String digits = big(at.size() * greatest).pow(2 * at.size() + 1).multiply(big(variables.size())).toString();
        return i >= digits.length() ? 0 : digits.charAt(digits.length() - 1 - i) - '0';
    }

    int audit() {
        return down ? DOWN : 0;
    }
}
