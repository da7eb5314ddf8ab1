import java.util.ArrayList;
import java.util.List;

/** Texts for tapes, made up from numbers in a fixed order: mostly right ones, and such as lie beside a limit. */
final class Texts {
    private static final String[] VARIABLES = {"x", "y", "z", "w", "longname", "X1", "of", "done"};
    private static final String[] CLAIMS = {"a", "b", "c", "d", "e", "f", "g", "h", "sum", "cut", "longclai", "A"};
    private static final String[] COMPARED = {"<", "<=", "=", ">=", ">", "!="};
    private static final String[] STRANGE = {"!", "#", "\t", "\u0080", "\u0000", "abcdefghi", "1234567", "12a", "_", ".", "'", "\r"};
    private static final String[] SIGNS = {"(", ")", "[", "]", ",", ";", "=", "+", "-", "*", "<", ">", "<=", ">=", "!=", "->", "==", "var",
        "claim", "and", "or", "not", "true", "false", "abs", "min", "max", "div", "mod", "divides", "if", "of", "sum", "cut", "case", "else",
        "done", "0", "1", "2", "12", "13", "7", "a", "b", "x", "y", "nope"};

    List<String> variables = new ArrayList<>();
    List<String> claims = new ArrayList<>();
    private long state;

    Texts(int run) {
        state = run * 0x9E3779B97F4A7C15L + 12345;
    }

    int below(int n) {
        state = state * 6364136223846793005L + 1442695040888963407L;
        return (int) ((state >>> 33) % n);
    }

    boolean one(int of) {
        return below(of) == 0;
    }

    int pick(int... of) {
        return of[below(of.length)];
    }

    private String pick(String... of) {
        return of[below(of.length)];
    }

    void know(List<String> variableNames, List<String> claimNames) {
        variables = new ArrayList<>(variableNames);
        claims = new ArrayList<>(claimNames);
    }

    private String variable() {
        return variables.isEmpty() || one(200) ? "nope" : variables.get(below(variables.size()));
    }

    private String number(int style) {
        if (style == 2 && one(3)) {
            return pick("0", "007", "12", "13", "20", "21", "99998", "99999", "100000", "100001", "500000", "999999", "50000", "49999",
                "4999", "5000", "5001");
        }
        return String.valueOf(one(6) ? below(60) : below(8));
    }

    private String part(int style, int depth, boolean words) {
        if (one(4)) {
            return number(style);
        }
        return one(2) ? atom(style, depth, words) : number(style) + " * " + atom(style, depth, words);
    }

    private String atom(int style, int depth, boolean words) {
        if (depth <= 0 || !one(4)) {
            return variable();
        }
        String in = sum(style, depth - 1, words);
        if (!words) {
            return "[ " + in + " ]";
        }
        switch (below(6)) {
            case 0: return "[ " + in + " ]";
            case 1: return "abs [ " + in + " ]";
            case 2: return "min [ " + in + " , " + sum(style, depth - 1, words) + " ]";
            case 3: return "max [ " + in + " , " + sum(style, depth - 1, words) + " ]";
            default: return pick("div", "mod") + " [ " + in + " , " + divisor(style) + " ]";
        }
    }

    private String divisor(int style) {
        return style == 2 && one(5) ? pick("0", "1", "2", "12", "13", "012") : String.valueOf(2 + below(one(3) ? 11 : 4));
    }

    private String sum(int style, int depth, boolean words) {
        StringBuilder all = new StringBuilder(one(5) ? "- " : "");
        int parts = 1 + below(3);
        for (int k = 0; k < parts; k++) {
            all.append(k == 0 ? "" : pick(" + ", " - ")).append(part(style, depth, words));
        }
        return all.toString();
    }

    private String compared(int style) {
        if (style != 2 && one(6)) {
            return divisor(style) + " divides " + sum(style, one(3) ? 1 : 0, true);
        }
        if (one(3)) {
            return variable() + " " + pick(COMPARED) + " " + (one(3) ? "- " : "") + below(30);
        }
        int depth = one(3) ? 2 : 0;
        return sum(style, depth, true) + " " + pick(COMPARED) + " " + sum(style, depth, true);
    }

    String formula(int style, int depth) {
        if (depth <= 0 || one(3)) {
            int kind = below(12);
            return kind == 0 ? pick("true", "false") : kind < 4 && !claims.isEmpty() ? claims.get(below(claims.size())) : compared(style);
        }
        String left = formula(style, depth - 1);
        String right = formula(style, depth - 1);
        switch (below(7)) {
            case 0: return "( " + left + " ) " + pick("->", "==") + " ( " + right + " )";
            case 1: return "( " + left + " ) or ( " + right + " )";
            case 2: return "( " + left + " ) and ( " + right + " )";
            case 3: return left + " " + pick("and", "or", "->", "==") + " " + right;
            case 4: return "not ( " + left + " )";
            case 5: return "( ( " + left + " ) " + pick("and", "or") + " " + right + " )";
            default: return left + " and " + right;
        }
    }

    private String freshClaim() {
        for (int k = 0; k < 5; k++) {
            String name = one(3) ? "k" + below(100) : pick(CLAIMS);
            if (!claims.contains(name) && !variables.contains(name)) {
                return name;
            }
        }
        return "k" + below(1000);
    }

    private String varDecl(int most) {
        StringBuilder all = new StringBuilder("var");
        int n = 1 + below(most);
        for (int k = 0; k < n && variables.size() < 4; k++) {
            String name = pick(VARIABLES);
            if (!variables.contains(name) && !claims.contains(name)) {
                variables.add(name);
                all.append(' ').append(name);
            }
        }
        return all.length() > 3 ? all + " ; " : "";
    }

    private String bounds() {
        StringBuilder all = new StringBuilder();
        for (String variable : variables) {
            int low = below(12);
            all.append(all.length() == 0 ? "" : " and ").append(variable).append(" >= - ").append(low).append(" and ").append(variable)
                .append(" <= ").append(below(12));
        }
        return all.toString();
    }

    String first(int style) {
        StringBuilder all = new StringBuilder(varDecl(style == 0 || style == 2 ? 2 : 4));
        int n = 1 + below(3);
        if (style == 3 && !variables.isEmpty()) {
            String name = freshClaim();
            claims.add(name);
            all.append("claim ").append(name).append(" = ").append(variables.get(0)).append(" <= 0 and ").append(variables.get(0)).append(" >= 1 ; ");
        }
        for (int k = 0; k < n; k++) {
            all.append(style == 1 && one(3) ? denseText() : style == 1 || style == 3 ? plainText() : claimText(style));
        }
        return spaced(all.toString());
    }

    String claimText(int style) {
        String name = freshClaim();
        String formula = one(8) && !variables.isEmpty() ? bounds() : formula(style, 2);
        String text = "claim " + name + " = " + formula + " ; ";
        claims.add(name);
        return one(6) && variables.size() < 4 ? varDecl(1) + text : text;
    }

    private String plainSum(int most) {
        StringBuilder all = new StringBuilder();
        for (String variable : variables) {
            if (!one(3)) {
                all.append(all.length() == 0 ? (one(2) ? "- " : "") : pick(" + ", " - ")).append(below(most)).append(" * ").append(variable);
            }
        }
        return all.length() == 0 ? "0" : all.toString();
    }

    String plainText() {
        String name = freshClaim();
        StringBuilder all = new StringBuilder("claim " + name + " = ");
        int n = 1 + below(4);
        for (int k = 0; k < n; k++) {
            String[] formulas = {plainSum(21) + " " + pick("<=", "<", ">=", ">", "=") + " " + (one(2) ? "- " : "")
                + (one(6) ? below(100000) : below(200)), plainSum(6) + " <= " + below(40), "true", "( " + plainSum(9) + " >= - " + below(50) + " )",
                claims.isEmpty() ? "true" : claims.get(below(claims.size())), one(4) ? compared(0) : plainSum(12) + " < " + below(99), "1 < 0"};
            int weight = below(40);
            all.append(k == 0 ? "" : " and ").append(formulas[weight == 0 ? 6 : weight < 3 ? 5 : weight < 6 ? 4 : weight < 8 ? 2
                : weight < 20 ? 0 : weight < 32 ? 1 : 3]);
        }
        if (!variables.isEmpty() && one(2)) {
            all.append(" and ").append(bounds());
        }
        claims.add(name);
        return all + " ; ";
    }

    /** Rows of great factors in all variables: their vertices have great denominators. */
    String denseText() {
        String name = freshClaim();
        StringBuilder all = new StringBuilder("claim " + name + " = true");
        int n = 2 + below(4);
        for (int k = 0; k < n; k++) {
            all.append(" and ");
            for (int v = 0; v < variables.size(); v++) {
                all.append(one(2) ? (v == 0 ? "- " : " - ") : v == 0 ? "" : " + ").append(one(5) ? below(21) : 12 + below(9)).append(" * ")
                    .append(variables.get(v));
            }
            all.append(variables.isEmpty() ? "0 <= " : one(6) ? " = " : " <= ").append(one(3) ? below(100000) : below(300));
        }
        for (String variable : variables) {
            all.append(one(4) ? "" : " and " + variable + " >= - " + below(one(4) ? 99999 : 40));
            all.append(one(4) ? "" : " and " + variable + " <= " + below(one(4) ? 99999 : 40));
        }
        claims.add(name);
        return all + " ; ";
    }

    String asked(int style) {
        return spaced(formula(style, 2));
    }

    String term(int style) {
        return spaced(one(6) ? sum(style, 1, one(5)) : plainSum(one(5) ? 25 : 9) + (one(3) ? pick(" + ", " - ") + below(one(4) ? 120000 : 30) : ""));
    }

    String goal(int style) {
        String term = one(3) ? sum(style == 2 ? 2 : 0, 1, one(8)) : plainSum(4);
        return spaced(one(2) ? term : term + " if " + formula(style, 1));
    }

    String name() {
        String name = one(4) || claims.isEmpty() ? pick("x", "nope", "true", "5", "", "abcdefghi", "!", "(") : claims.get(below(claims.size()));
        return pick("", " ", "\n ") + name + pick("", "", " ", "\n", " x", "!", ";", " a");
    }

    /** Blanks between tokens only where they are needed, or more of them. */
    String spaced(String text) {
        StringBuilder all = new StringBuilder();
        String last = "";
        for (String token : text.trim().split(" ")) {
            boolean words = !last.isEmpty() && Character.isLetterOrDigit(last.charAt(last.length() - 1)) && !token.isEmpty()
                && Character.isLetterOrDigit(token.charAt(0));
            boolean signs = "<>=!-".indexOf(last.isEmpty() ? ' ' : last.charAt(last.length() - 1)) >= 0 && !token.isEmpty()
                && "=>".indexOf(token.charAt(0)) >= 0;
            all.append(words || signs || one(3) ? pick(" ", " ", " ", "\n", "  ") : "").append(token);
            last = token;
        }
        return all.toString();
    }

    /** Something in it is changed: some are right still. */
    String mangled(String text) {
        List<String> tokens = new ArrayList<>(List.of(text.trim().split(" ")));
        int changes = 1 + below(2);
        for (int k = 0; k < changes && !tokens.isEmpty(); k++) {
            int i = below(tokens.size());
            switch (below(6)) {
                case 0: tokens.remove(i); break;
                case 1: tokens.add(i, tokens.get(below(tokens.size()))); break;
                case 2: tokens.set(i, pick(SIGNS)); break;
                case 3: tokens.add(i, pick(SIGNS)); break;
                case 4: tokens.set(i, one(2) ? pick(STRANGE) : pick(SIGNS)); break;
                default: tokens.subList(i, tokens.size()).clear(); break;
            }
        }
        return String.join(" ", tokens);
    }

    String faultText() {
        StringBuilder all = new StringBuilder();
        int n = 1 + below(3);
        for (int k = 0; k < n; k++) {
            all.append(one(3) ? varDecl(3) : "").append(claimText(2));
        }
        String text = one(4) ? all.toString() : mangled(all.toString());
        return one(2) ? spaced(text) : text;
    }

    /** A formula whose tokens, open brackets, cases or atoms lie at their limits. */
    String limitText() {
        String name = freshClaim();
        switch (below(5)) {
            case 0: return "claim " + name + " = " + longFormula() + " ;";
            case 1: return "claim " + name + " = " + deepFormula();
            case 2: return spaced("claim " + name + " = " + caseFormula() + " ;");
            case 3: return spaced("claim " + name + " = " + atomFormula() + " ;");
            default: return "claim " + name + " = " + greatFormula() + " ;";
        }
    }

    private String longFormula() {
        String v = variable();
        StringBuilder all = new StringBuilder();
        int want = 100 + below(22);
        int tokens = 0;
        if (one(2)) {
            while (tokens < want) {
                all.append("true ").append(pick("and ", "or "));
                tokens += 2;
            }
        } else {
            while (tokens < want) {
                all.append(v).append(" - ").append(v).append(" + ");
                tokens += 4;
            }
            all.append("1 < 2");
        }
        String tail = pick("true", v + " < 1", "13 divides " + v, "12 divides " + v, "not true", "( true )", "mod [ " + v + " , 13 ] < 1",
            "abs [ nope ] < 1", "nope", "#", "not not true and false", "13 < " + v, "", "2 * [ 3 - " + v + " ] != 5");
        return one(2) ? all + tail : all + " and " + tail + " and " + formula(2, 1);
    }

    private String deepFormula() {
        StringBuilder all = new StringBuilder();
        StringBuilder close = new StringBuilder();
        int deep = 10 + below(4);
        int formulas = below(deep + 1);
        for (int k = 0; k < formulas; k++) {
            boolean not = one(2);
            all.append(not ? "not " : "( ");
            close.insert(0, not ? "" : " )");
        }
        StringBuilder inner = new StringBuilder();
        for (int k = formulas; k < deep; k++) {
            String word = one(4) ? "abs [ " : "[ ";
            all.append(word);
            inner.append(" ]");
        }
        all.append(formulas == deep && one(2) ? "true" : variable() + inner + " < 1");
        String more = one(3) ? " and not ( true )" : "";
        return all.append(more).append(close).append(" ;").toString();
    }

    private String caseFormula() {
        StringBuilder all = new StringBuilder();
        int comparisons = 1 + below(4);
        for (int k = 0; k < comparisons; k++) {
            all.append(k == 0 ? "" : pick(" and ", " or "));
            int words = 1 + below(4);
            for (int j = 0; j < words; j++) {
                all.append(j == 0 ? "" : " + ").append(pick("abs [ " + variable() + " ]", "mod [ " + variable() + " , " + (2 + below(11)) + " ]",
                    "0 * div [ " + variable() + " , " + (2 + below(6)) + " ]", "min [ " + variable() + " , 3 ]"));
            }
            all.append(pick(" < ", " = ")).append(below(5));
        }
        return all.toString();
    }

    private String atomFormula() {
        StringBuilder all = new StringBuilder();
        int n = 20 + below(7);
        int made = 0;
        while (made < n) {
            boolean two = one(3) && made + 2 <= n;
            all.append(made == 0 ? "" : " or ").append(variable()).append(two ? " = " : pick(" <= ", " < ")).append(below(3) * 40 + made);
            made += two ? 2 : 1;
        }
        return all + (one(3) && !claims.isEmpty() ? " or " + claims.get(below(claims.size())) : "");
    }

    private String greatFormula() {
        String v = variable();
        String w = variable();
        int n = pick(99998, 99999, 100000, 100001);
        return pick(v + " <= " + n, v + " < " + n, v + " >= 0 - " + n, v + " > - " + n, v + " = " + n, "0 <= " + n, pick(19, 20, 21) + " * " + v + " < 1",
            "- " + pick(20, 21) + " * " + v + " != 1", "999999 + " + pick(0, 1, 2) + " - 999999 < " + v,
            pick(2, 3) + " * [ " + pick(333333, 333334, 500000, 500001) + " * " + v + " ] = 0 * " + w,
            "12 divides " + pick(999999, 500000) + " * " + v + " + " + pick(1, 0, 999999, 500000) + " * " + v,
            pick(5, 6, 7, 12) + " divides div [ " + v + " , 2 ]", "div [ div [ " + v + " , " + pick(2, 3, 4) + " ] , " + pick(3, 4, 5) + " ] < 1",
            "div [ " + v + " , 3 ] + div [ " + w + " , " + pick(4, 5) + " ] < " + pick(1, 6000, 8333, 8334),
            "abs [ " + v + " - " + n + " ] < 1", "min [ 20 * " + v + " , " + pick(0, 1) + " - " + w + " ] < 1",
            "mod [ " + v + " + 999999 , 2 ] = 1", "mod [ " + v + " - 999999 - 1 , 2 ] = 1", "mod [ " + v + " - 999998 , 5 ] = 1");
    }

    /** How many atoms of a plain claim that is on a proof can take: 0 of others. */
    private int[] taken = new int[0];

    void knowAtoms(int[] atoms) {
        taken = atoms;
    }

    /** Whether a proof has no wrong line but by its numbers' growth. */
    private boolean neat;

    private String ofLine() {
        int claim = claims.isEmpty() ? -1 : below(claims.size());
        for (int k = 0; k < 30 && claim >= 0 && !isTaken(claim); k++) {
            claim = below(claims.size());
        }
        boolean wrong = !neat && one(30);
        int atoms = claim >= 0 && claim < taken.length ? taken[claim] : 0;
        String name = claim < 0 || wrong ? pick("nope", "x") : claims.get(claim);
        return "of " + name + " " + (!neat && one(30) ? pick(0, atoms + 1) : 1 + below(Math.max(1, atoms))) + " ; ";
    }

    private boolean isTaken(int claim) {
        String name = claims.get(claim);
        return claim < taken.length && taken[claim] > 0 && !name.equals("sum") && !name.equals("cut");
    }

    private List<Integer> known = new ArrayList<>();
    /** Of open cases: where their part begins, below 0 in the second one. */
    private final List<Integer> parts = new ArrayList<>();
    private int told;

    private int line() {
        return known.isEmpty() || !neat && one(40) ? pick(0, told + 1, 1) : known.get(below(known.size()));
    }

    private void tellLine() {
        told++;
        known.add(told);
    }

    /** Two atoms of a claim that speak against one another, if the texts told it as their first one. */
    private String refuted() {
        StringBuilder all = new StringBuilder();
        all.append("of ").append(claims.get(0)).append(" 1 ; of ").append(claims.get(0)).append(" 2 ; ");
        tellLine();
        tellLine();
        int times = 1 + below(3);
        all.append("sum ").append(times).append(' ').append(told - 1).append(' ').append(times).append(' ').append(told).append(" ; ");
        tellLine();
        return all.toString();
    }

    private String endOfPart() {
        int begins = parts.get(parts.size() - 1);
        List<Integer> left = new ArrayList<>();
        for (int i : known) {
            if (i < Math.abs(begins)) {
                left.add(i);
            }
        }
        known = left;
        parts.remove(parts.size() - 1);
        if (begins > 0) {
            parts.add(-told - 1);
        }
        tellLine();
        return begins > 0 ? "else ; " : "done ; ";
    }

    String proof() {
        StringBuilder all = new StringBuilder();
        known = new ArrayList<>();
        parts.clear();
        told = 0;
        int n = one(15) ? 195 + below(10) : 1 + below(20);
        neat = one(2);
        boolean refutes = !claims.isEmpty() && (neat || one(2));
        for (int k = 0; k < n; k++) {
            int kind = below(k < 2 ? 3 : 10);
            if (n > 190 && k > 1 && kind != 9) {
                all.append("cut 1 1 ; ");
                tellLine();
            } else if (kind < 3) {
                all.append(ofLine());
                tellLine();
            } else if (kind < 5) {
                all.append("sum ").append(below(one(6) && !neat ? 1000000 : 4)).append(' ').append(line()).append(' ').append(below(9)).append(' ')
                    .append(line()).append(" ; ");
                tellLine();
            } else if (kind < 6) {
                all.append("cut ").append(line()).append(' ').append(one(9) && !neat ? below(4) : 1).append(" ; ");
                tellLine();
            } else if (kind < 8) {
                all.append("case ").append(one(40) && !neat ? "nope" : variable()).append(one(3) ? " - " : " ").append(below(20)).append(" ; ");
                parts.add(told + 1);
                tellLine();
            } else if (!neat && one(20)) {
                all.append(pick("done ; ", "else ; "));
            } else if (!parts.isEmpty()) {
                all.append(refutes ? refuted() : "").append(endOfPart());
            }
        }
        while (refutes && !parts.isEmpty() && !one(30)) {
            all.append(refuted()).append(endOfPart());
        }
        return all.toString();
    }
}
