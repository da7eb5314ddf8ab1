/** What the tests share: texts onto tapes, and answers against those that are due. */
final class Checks {
    interface Call {
        long answer();
    }

    private static int wrong = 0;
    private static int looked = 0;

    private Checks() {
    }

    static void due(String call, long got, long want) {
        looked++;
        if (got != want) {
            wrong++;
            System.out.println(call + " answered " + got + ", due is " + want);
        }
    }

    static void due(String call, String got, String want) {
        looked++;
        if (!got.equals(want)) {
            wrong++;
            System.out.println(call + " answered " + got + ", due is " + want);
        }
    }

    /** The call throws just that exception. */
    static void dueThrow(String call, Class<?> want, Call made) {
        looked++;
        Class<?> got = null;
        try {
            made.answer();
        } catch (RuntimeException e) {
            got = e.getClass();
        }
        if (got != want) {
            wrong++;
            System.out.println(call + " threw " + got + ", due is " + want);
        }
    }

    /** Puts a text on the tape, in place of what it has. */
    static void tape(IntegerHouse house, String text) {
        house.end(0);
        for (int from = 0; from < text.length(); from += 20) {
            int[] n = numbers(text, from);
            house.feed(n[0], n[1], n[2], n[3], n[4]);
        }
        house.end(text.length());
    }

    static void tape(Model model, String text) {
        model.end(0);
        for (int from = 0; from < text.length(); from += 20) {
            int[] n = numbers(text, from);
            model.feed(n[0], n[1], n[2], n[3], n[4]);
        }
        model.end(text.length());
    }

    /** Twenty bytes of a text, as feed() takes them; 0s behind its end. */
    static int[] numbers(String text, int from) {
        int[] numbers = new int[5];
        for (int k = 0; k < 20 && from + k < text.length(); k++) {
            numbers[k / 4] |= (text.charAt(from + k) & 255) << 24 - 8 * (k % 4);
        }
        return numbers;
    }

    /** A house whose claims have so many rows, of two variables. */
    static IntegerHouse rows(int many) {
        IntegerHouse x = house("var x y;");
        int left = many;
        for (int c = 0; left > 0; c++) {
            StringBuilder text = new StringBuilder("claim c" + c + " = true");
            for (int k = 0; k < 12 && left > 0; k++) {
                text.append(" and x + ").append(c).append(" * y <= ").append(50 + k);
                left--;
            }
            due("read", read(x, text + ";"), 1);
        }
        return x;
    }

    static IntegerHouse house(String text) {
        IntegerHouse house = new IntegerHouse();
        tape(house, text);
        int told = house.read();
        if (told < 0) {
            wrong++;
            System.out.println("read() of \"" + text + "\" answered " + told);
        }
        return house;
    }

    static int read(IntegerHouse house, String text) {
        tape(house, text);
        return house.read();
    }

    /** A text whose reading by a new house is a fault of that kind at that place. */
    static void dueFault(String text, int kind, int place) {
        IntegerHouse house = new IntegerHouse();
        dueFault(house, text, kind, place);
        due("count(0) behind the fault in " + text, house.count(0), 0);
        due("count(1) behind the fault in " + text, house.count(1), 0);
        due("count(5) behind the fault in " + text, house.count(5), 0);
        due("count(4) behind the fault in " + text, house.count(4), 0);
    }

    static void dueFault(IntegerHouse house, String text, int kind, int place) {
        due("read() of " + text, read(house, text), -1000 - place);
        due("fault() of " + text, house.fault(), kind);
    }

    static String printed(IntegerHouse house, int claim) {
        int size = house.print(claim);
        StringBuilder text = new StringBuilder();
        for (int i = 0; i < size; i++) {
            text.append((char) house.printed(i));
        }
        return text.toString();
    }

    static String repeat(String text, int times) {
        StringBuilder all = new StringBuilder();
        for (int k = 0; k < times; k++) {
            all.append(text);
        }
        return all.toString();
    }

    static void finish() {
        System.out.println(wrong == 0 ? looked + " answers are as due" : wrong + " answers are not as due");
        if (wrong != 0) {
            System.exit(1);
        }
    }
}
