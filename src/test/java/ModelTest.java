import java.lang.reflect.InvocationTargetException;
import java.lang.reflect.Method;
import java.util.ArrayList;
import java.util.HashMap;
import java.util.List;
import java.util.Map;

/**
 * Runs of calls, made up from numbers in a fixed order, on the program and on the plain model: all answers are the same.
 * With two arguments, the first run and how many: others than those that .ci/run does.
 */
final class ModelTest {
    private static final Map<String, Method> PROGRAM = methods(IntegerHouse.class);
    private static final Map<String, Method> MODEL = methods(Model.class);
    private static final int RUNS = 600;

    private final IntegerHouse house = new IntegerHouse();
    private final Model model = new Model();
    private final StringBuilder told = new StringBuilder();
    private final Texts texts;
    private final int style;
    private int calls;
    private boolean same = true;

    private ModelTest(int run) {
        texts = new Texts(run);
        style = run % 6;
    }

    public static void main(String[] args) {
        int first = args.length > 0 ? Integer.parseInt(args[0]) : 0;
        int runs = args.length > 1 ? Integer.parseInt(args[1]) : RUNS;
        for (int run = first; run < first + runs; run++) {
            ModelTest test = new ModelTest(run);
            test.run();
            if (!test.same) {
                System.out.println("run " + run + ":\n" + test.told);
            }
        }
        Checks.finish();
    }

    private static Map<String, Method> methods(Class<?> of) {
        Map<String, Method> all = new HashMap<>();
        for (Method method : of.getDeclaredMethods()) {
            boolean face = !method.isSynthetic() && !java.lang.reflect.Modifier.isPrivate(method.getModifiers())
                && !java.lang.reflect.Modifier.isStatic(method.getModifiers());
            if (face) {
                all.put(method.getName(), method);
            }
        }
        return all;
    }

    private static String answer(Object of, Method method, Object... args) {
        try {
            return String.valueOf(method.invoke(of, args));
        } catch (InvocationTargetException e) {
            return e.getCause() instanceof RuntimeException ? "throws." + e.getCause().getClass().getSimpleName() : "" + e.getCause();
        } catch (IllegalAccessException e) {
            return "no access";
        }
    }

    private long call(String name, Object... args) {
        if (calls >= 512 || !same) {
            return 0;
        }
        calls++;
        String got = answer(house, PROGRAM.get(name), args);
        String want = answer(model, MODEL.get(name), args);
        StringBuilder row = new StringBuilder(name).append('(');
        for (int k = 0; k < args.length; k++) {
            row.append(k == 0 ? "" : ", ").append(args[k]);
        }
        row.append(')');
        told.append(row).append(" = ").append(want).append('\n');
        Checks.due(row.toString(), got, want);
        same = got.equals(want);
        return want.startsWith("throws") || want.equals("null") ? 0 : Long.parseLong(want);
    }

    private void tape(String text) {
        told.append("\"").append(text).append("\"\n");
        call("end", 0);
        for (int from = 0; from < text.length() && from + 20 <= 2000; from += 20) {
            int[] n = Checks.numbers(text, from);
            call("feed", n[0], n[1], n[2], n[3], n[4]);
        }
        call("end", Math.min(2000, text.length()));
    }

    private void run() {
        texts.know(model.variableNames(), model.claimNames());
        if (style != 4 || texts.one(3)) {
            tape(texts.first(style));
            call("read");
        }
        while (calls < 300 && same) {
            texts.know(model.variableNames(), model.claimNames());
            switch (style) {
                case 0: decideCall(); break;
                case 1: plainCall(); break;
                case 2: faultCall(); break;
                case 3: proofCall(); break;
                case 4: logCall(); break;
                default: anyCall(); break;
            }
        }
    }

    private void anyCall() {
        switch (texts.below(6)) {
            case 0: decideCall(); break;
            case 1: plainCall(); break;
            case 2: faultCall(); break;
            case 3: proofCall(); break;
            case 4: logCall(); break;
            default: lookCall(); break;
        }
    }

    private int claim() {
        int claims = texts.claims.size();
        return texts.one(12) ? texts.pick(-1, claims, claims + 1, Integer.MIN_VALUE, Integer.MAX_VALUE) : texts.below(Math.max(1, claims));
    }

    private long far() {
        return texts.one(4) ? texts.pick(1, -1) * (1000000000000L + texts.pick(-1, 0, 0, 1)) : texts.below(41) - 20;
    }

    /** Calls that tell what there is. */
    private void lookCall() {
        switch (texts.below(12)) {
            case 0: call("count", texts.below(10) - 1); break;
            case 1: call("fault"); break;
            case 2: call("about", claim(), texts.below(8) - 1); break;
            case 3: call("atom", claim(), texts.below(12) - 1, texts.below(8) - 1); break;
            case 4:
                long size = call("print", claim());
                for (int i = -1; i <= size && i < 30; i++) {
                    call("printed", i);
                }
                break;
            case 5: call("holds", claim(), far(), far(), far(), far()); break;
            case 6: call("on", claim(), texts.one(2)); break;
            case 7: call(texts.one(2) ? "push" : "pop"); break;
            case 8: call("bound", texts.one(6) ? texts.pick(-1, Integer.MAX_VALUE, Integer.MIN_VALUE) : texts.below(60)); break;
            case 9:
                tape(texts.name());
                call("find");
                break;
            case 10: call("audit"); break;
            default: call("verify"); break;
        }
    }

    private void values() {
        call("height");
        for (int v = -1; v < 5; v++) {
            call("value", v);
        }
    }

    private void decideCall() {
        switch (texts.below(14)) {
            case 0:
                call("decide");
                values();
                break;
            case 1:
            case 2:
                tape(texts.asked(style));
                call("follows");
                values();
                break;
            case 3:
            case 4:
                tape(texts.goal(style));
                call("extreme", texts.one(2));
                call("number");
                break;
            case 5: call("many"); break;
            case 6:
                call("core");
                for (int k = -1; k < 4; k++) {
                    call("inCore", k);
                }
                break;
            case 7: call("alike", claim(), claim()); break;
            case 8: call("places"); break;
            case 9:
                long states = call("own", claim());
                for (int k = 0; k < 8; k++) {
                    int state = texts.one(8) ? texts.pick(-1, (int) states) : texts.below((int) Math.max(1, states));
                    int letter = texts.below(18) - 1;
                    call("half", state, letter);
                    call("takes", state, letter);
                }
                break;
            case 10:
                tape(texts.claimText(style));
                call("read");
                break;
            case 11:
            case 12: call("on", claim(), texts.one(2)); break;
            default: lookCall(); break;
        }
    }

    private void plainCall() {
        switch (texts.below(8)) {
            case 0:
            case 1:
                tape(texts.term(style));
                call("relaxed");
                for (int k = -1; k < 11; k++) {
                    call("fraction", k);
                }
                break;
            case 2:
            case 3:
                tape(texts.term(style));
                call("search", texts.one(20) ? texts.pick(-1, 2) : texts.below(2),
                    texts.one(3) ? texts.pick(-1, 0, 1, 2, 3, 99, 100, 101) : 1 + texts.below(60));
                for (int k = -1; k < 8; k++) {
                    call("best", k);
                }
                break;
            case 4:
                tape(texts.one(4) ? texts.denseText() : texts.plainText());
                call("read");
                break;
            case 5: call("on", claim(), texts.one(2)); break;
            case 6: call("bound", texts.below(30)); break;
            default: lookCall(); break;
        }
    }

    private void faultCall() {
        switch (texts.below(6)) {
            case 0:
            case 1:
                tape(texts.limitText());
                call("read");
                call("fault");
                break;
            case 2:
                tape(texts.faultText());
                call("read");
                call("fault");
                break;
            case 3:
                tape(texts.mangled(texts.goal(style)));
                call(texts.one(2) ? "extreme" : "extreme", texts.one(2));
                call("fault");
                break;
            case 4:
                tape(texts.mangled(texts.one(2) ? texts.asked(style) : texts.term(style)));
                if (texts.one(2)) {
                    call("follows");
                } else {
                    call("relaxed");
                }
                call("fault");
                break;
            default:
                if (texts.claims.size() > 15) {
                    call("pop");
                }
                if (texts.one(3)) {
                    call("push");
                }
                lookCall();
                break;
        }
    }

    private void knowAtoms() {
        int[] atoms = new int[Math.max(0, model.count(1))];
        for (int c = 0; c < atoms.length; c++) {
            atoms[c] = model.about(c, 0) == 1 && model.about(c, 3) == 1 ? model.about(c, 1) : 0;
        }
        texts.knowAtoms(atoms);
    }

    private void proofCall() {
        knowAtoms();
        switch (texts.below(5)) {
            case 0:
            case 1:
            case 2:
                tape(texts.one(6) ? texts.mangled(texts.proof()) : texts.proof());
                call("prove");
                for (int k = 0; k < 6; k++) {
                    call("line", texts.below(12), texts.below(7) - 1);
                }
                call("fault");
                break;
            case 3:
                if (texts.claims.size() < 6) {
                    tape(texts.plainText());
                    call("read");
                }
                break;
            default: lookCall(); break;
        }
    }

    private void logCall() {
        switch (texts.below(16)) {
            case 0:
            case 1: call("sync"); break;
            case 2: call("cut", texts.one(4) ? texts.pick(-2, -1, 2000, 2001) : texts.below(4), texts.one(4) ? texts.pick(-1, 0, 255, 256)
                : texts.below(256)); break;
            case 3:
            case 4: call("start"); break;
            case 5: call("verify"); break;
            case 6: call("octet", texts.below(6), texts.one(3) ? texts.pick(-1, 0, 3, 255, 256) : texts.below(12)); break;
            case 7: pokeCall(); break;
            case 8: call("push"); break;
            case 9: call("pop"); break;
            case 10: call("on", claim(), texts.one(2)); break;
            case 11:
                tape(texts.one(4) ? " ".repeat(texts.pick(243, 244, 245, 246, 480, 491, 492, 493)) : texts.claimText(0));
                call("read");
                break;
            case 12:
                if (texts.one(20)) {
                    fill();
                }
                break;
            default: lookCall(); break;
        }
    }

    /** Till the log has hardly room for more. */
    private void fill() {
        for (int k = 0; k < 100; k++) {
            for (int f = 0; f < 2; f++) {
                call("feed", 0x20202020, 0x20202020, 0x20202020, 0x20202020, 0x20202020);
            }
            call(texts.one(2) ? "read" : "sync");
        }
    }

    private void pokeCall() {
        int block = 1 + texts.below(4);
        int[][] pokes = {{2, 1}, {3, 1}, {4, 7}, {5, 1}, {12, 2}, {1, 1}, {20, 5}, {255, 1}, {4 + texts.below(40), 1 << texts.below(8)}};
        int[] poke = pokes[texts.below(pokes.length)];
        call("poke", block, poke[0], poke[1]);
        if (texts.one(2)) {
            mend(block);
        }
    }

    /** The sum is made right, so that what was changed counts. */
    private void mend(int block) {
        int s = 0;
        for (int i = 0; i < 252; i++) {
            s = Integer.rotateLeft(s ^ model.octet(block, i), 5) * 0x9E3779B1;
        }
        for (int i = 0; i < 4; i++) {
            call("poke", block, 252 + i, s >>> 24 - 8 * i & 255 ^ model.octet(block, 252 + i));
        }
    }
}
