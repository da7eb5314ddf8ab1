/** All that an object tells by calls that change nothing: before and behind a refused call it is the same. */
final class Seen {
    private Seen() {
    }

    static String of(IntegerHouse x) {
        StringBuilder all = new StringBuilder();
        for (int what = 0; what < 8; what++) {
            add(all, what == 4 ? 0 : x.count(what));
        }
        add(all, x.verify());
        for (int claim = 0; claim < x.count(1); claim++) {
            for (int what = 0; what < 6; what++) {
                add(all, x.about(claim, what));
            }
            for (int k = 0; k < x.about(claim, 1); k++) {
                for (int what = 0; what < 6; what++) {
                    add(all, x.atom(claim, k, what));
                }
            }
        }
        return all + told(x) + disk(x);
    }

    /** What calls told last. */
    static String told(IntegerHouse x) {
        StringBuilder all = new StringBuilder(" told ");
        add(all, x.height());
        add(all, x.number());
        for (int k = 0; k < 7; k++) {
            int i = k;
            add(all, x.inCore(k));
            add(all, orNone(() -> x.value(i)));
            add(all, orNone(() -> x.best(i)));
            for (int letter = 0; letter < 4; letter++) {
                int l = letter;
                add(all, orNone(() -> x.half(i, l)));
                add(all, orNone(() -> x.takes(i, l)));
                add(all, orNone(() -> x.line(i + 1, l + 1)));
            }
        }
        for (int k = 0; k < 10; k++) {
            int i = k;
            add(all, orNone(() -> x.fraction(i)));
        }
        for (int k = 0; k < 100; k++) {
            add(all, x.printed(k));
        }
        return all.toString();
    }

    static String disk(IntegerHouse x) {
        StringBuilder all = new StringBuilder(" disk ");
        for (int block = 1; block <= 100; block++) {
            for (int i = 0; i < 256; i++) {
                all.append((char) x.octet(block, i));
            }
        }
        return all.toString();
    }

    private static void add(StringBuilder all, long number) {
        all.append(number).append(' ');
    }

    private static long orNone(Checks.Call call) {
        try {
            return call.answer();
        } catch (IndexOutOfBoundsException e) {
            return Long.MIN_VALUE;
        }
    }
}
