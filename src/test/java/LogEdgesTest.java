/** Promises 1 to 10 and the document's part 1: the least and the greatest that is taken, the one beyond each, refusals. */
final class LogEdgesTest {
    private static final int[] FAR = {Integer.MIN_VALUE, Integer.MAX_VALUE};

    public static void main(String[] args) {
        newObject();
        feedFull();
        feedBytes();
        end();
        useOfTheTape();
        syncSizes();
        writtenBlock();
        sums();
        cutArguments();
        cutBlocks();
        cutTears();
        torn();
        start();
        startRecords();
        startBooleans();
        startClaims();
        startTapes();
        startLayers();
        startFaults();
        startFull();
        verify();
        octetAndPoke();
        count();
        logRoom();
        refusedOnFullLog();
        Checks.finish();
    }

    private static String blanks(int n) {
        return Checks.repeat(" ", n);
    }

    private static long endOf(IntegerHouse x, int n) {
        x.end(n);
        return x.count(4);
    }

    // ---- promise 1

    private static void newObject() {
        IntegerHouse x = new IntegerHouse();
        Checks.due("find in an empty tape", x.find(), -1000);
        Checks.due("its fault", x.fault(), 2);
        Checks.due("read of an empty tape", x.read(), 0);
        Checks.due("sync of its record", x.sync(), 1);
        IntegerHouse y = new IntegerHouse();
        Checks.due("pop of no layer", y.pop(), IntegerHouse.STATE);
        Checks.due("about of no claim", y.about(0, 0), IntegerHouse.UNKNOWN);
        Checks.due("sync of no record", y.sync(), 0);
        Checks.due("it is up", y.start(), IntegerHouse.STATE);
        Checks.due("the disk is empty", Seen.disk(y).replace("\u0000", ""), " disk ");
        Checks.due("best", Seen.told(y), Seen.told(new IntegerHouse()));
    }

    // ---- promise 2

    private static void feedFull() {
        IntegerHouse x = new IntegerHouse();
        Checks.due("the first feed", x.feed(0, 0, 0, 0, 0), 20);
        for (int k = 2; k < 100; k++) {
            x.feed(0, 0, 0, 0, 0);
        }
        Checks.due("count(4)", x.count(4), 1980);
        Checks.due("2000 bytes", x.feed(1, 2, 3, 4, 5), 2000);
        Checks.dueThrow("2020 bytes", IllegalStateException.class, () -> x.feed(1, 2, 3, 4, 5));
        Checks.due("count(4) behind it", x.count(4), 2000);
        for (int length = 1981; length <= 1999; length++) {
            x.end(1980);
            x.feed(0x20202020, 0x20202020, 0x20202020, 0x20202020, 0x20202020);
            int n = length;
            x.end(n);
            Checks.dueThrow("feed behind " + n, IllegalStateException.class, () -> x.feed(1, 2, 3, 4, 5));
            Checks.due("count(4) behind it", x.count(4), n);
        }
        x.end(0);
        Checks.due("an empty tape takes twenty", x.feed(-1, -1, -1, -1, -1), 20);
    }

    private static void feedBytes() {
        IntegerHouse x = new IntegerHouse();
        // var ab;claim c=ab<1;
        x.feed(0x76617220, 0x61623b63, 0x6c61696d, 0x20633d61, 0x623c313b);
        Checks.due("all twenty bytes, each number's highest one first", x.read(), 1);
        Checks.due("the claim", Checks.printed(x, 0), "ab < 1");
        // a byte above 127 at each place of its number: the first token that is wrong is there
        int[] numbers = {0xFF202020, 0x2080_2020, 0x20208120, 0x202020FE};
        for (int k = 0; k < numbers.length; k++) {
            x.feed(0x20202020, numbers[k], 0x20202020, 0x20202020, 0x20202020);
            Checks.due("byte " + (4 + k), x.read(), -1004 - k);
            Checks.due("fault", x.fault(), 1);
        }
        for (int k = 0; k < 20; k++) {
            int[] n = new int[5];
            java.util.Arrays.fill(n, 0x20202020);
            n[k / 4] ^= 0x01 << 24 - 8 * (k % 4);
            x.feed(n[0], n[1], n[2], n[3], n[4]);
            Checks.due("byte " + k + " of twenty", x.read(), -1000 - k);
        }
    }

    // ---- promise 3

    private static void end() {
        IntegerHouse x = new IntegerHouse();
        Checks.due("end(0) of an empty tape", endOf(x, 0), 0);
        for (int n : new int[] {1, -1, FAR[0], FAR[1]}) {
            Checks.dueThrow("end(" + n + ") of an empty tape", IllegalArgumentException.class, () -> endOf(x, n));
        }
        x.feed(0x76617220, 0x61623b63, 0x6c61696d, 0x20633d61, 0x623c313b);
        for (int n : new int[] {21, 2000, -1, FAR[0], FAR[1]}) {
            Checks.dueThrow("end(" + n + ") of twenty", IllegalArgumentException.class, () -> endOf(x, n));
            Checks.due("count(4)", x.count(4), 20);
        }
        Checks.due("end(20) of twenty", endOf(x, 20), 20);
        Checks.due("end(19) of twenty", endOf(x, 19), 19);
        Checks.due("the twentieth is cut", x.read(), -1019);
        x.feed(0x76617220, 0x61623b63, 0x6c61696d, 0x20633d61, 0x623c313b);
        Checks.due("end(0)", endOf(x, 0), 0);
        Checks.due("nothing is left", x.read(), 0);
        Checks.tape(x, blanks(2000));
        Checks.due("end(2000)", endOf(x, 2000), 2000);
        Checks.dueThrow("end(2001)", IllegalArgumentException.class, () -> endOf(x, 2001));
        Checks.due("end(1)", endOf(x, 1), 1);
        Checks.due("the tape while DOWN", down(x) ? endOf(x, 0) : -1, 0);
        Checks.due("it can be fed while DOWN", x.feed(0, 0, 0, 0, 0), 20);
    }

    private static boolean down(IntegerHouse x) {
        if (x.push() < 0) {
            x.pop();
        }
        x.cut(0, 0);
        return x.sync() == IntegerHouse.LOST;
    }

    /** A call that reads the tape uses it up, refused or not, but for DOWN. */
    private static void useOfTheTape() {
        String[] calls = {"read", "find", "follows", "extreme", "relaxed", "search", "search", "prove"};
        String[][] texts = {{"var z;", "!", ""}, {"a", "zz", ""}, {"x < 1", "x <", "nope"}, {"x", "x if", "21 * x"}, {"x", "21 * x", ""},
            {"x", "x +", "abs[x]"}, {"x", "x +", "abs[x]"}, {"of a 1;", "of", "of a 9;"}};
        for (int k = 0; k < calls.length; k++) {
            for (String text : texts[k]) {
                IntegerHouse x = Checks.house("var x; claim a = x < 9;");
                Checks.tape(x, text);
                call(x, calls[k], k == 6 ? 101 : 5);
                Checks.due(calls[k] + " uses up " + text, x.count(4), 0);
                Checks.due("nothing is there for the next one", x.read(), 0);
                Checks.tape(x, text);
                down(x);
                Checks.due(calls[k] + " while DOWN", call(x, calls[k], k == 6 ? 101 : 5), IntegerHouse.DOWN);
                Checks.due("the tape stays", x.count(4), text.length());
                x.start();
                Checks.due("behind start(), too", x.count(4), text.length());
            }
        }
        IntegerHouse y = Checks.house("var x; claim a = x < 9 or x > 12;");
        Checks.tape(y, "x");
        Checks.due("STATE", y.relaxed(), IntegerHouse.STATE);
        Checks.due("relaxed uses it up", y.count(4), 0);
        Checks.tape(y, "x");
        Checks.due("STATE", y.search(0, 1), IntegerHouse.STATE);
        Checks.due("search uses it up", y.count(4), 0);
    }

    private static int call(IntegerHouse x, String name, int most) {
        switch (name) {
            case "read": return x.read();
            case "find": return x.find();
            case "follows": return x.follows();
            case "extreme": return x.extreme(true);
            case "relaxed": return x.relaxed();
            case "search": return x.search(0, most);
            default: return x.prove();
        }
    }

    // ---- promise 4

    /** So many bytes of records, so many blocks. */
    private static void syncSizes() {
        int[][] sizes = {{3, 1}, {247, 1}, {248, 1}, {249, 2}, {495, 2}, {496, 2}, {497, 3}, {744, 3}, {745, 4}, {2003, 9}};
        for (int[] size : sizes) {
            IntegerHouse x = new IntegerHouse();
            Checks.read(x, blanks(size[0] - 3));
            Checks.due("count(5)", x.count(5), size[0]);
            Checks.due("sync of " + size[0] + " bytes", x.sync(), size[1]);
            Checks.due("count(5)", x.count(5), 0);
            Checks.due("count(6)", x.count(6), size[1]);
            for (int block = 1; block <= size[1]; block++) {
                boolean last = block == size[1];
                Checks.due("the third byte", x.octet(block, 2), last ? 1 : 0);
                Checks.due("n", x.octet(block, 3), last ? size[0] - 248 * (size[1] - 1) : 248);
                Checks.due("the number", x.octet(block, 0) << 8 | x.octet(block, 1), block);
            }
            Checks.due("sync of none", x.sync(), 0);
            Checks.due("the block behind is as it was", x.octet(size[1] + 1, 1), 0);
        }
        IntegerHouse y = new IntegerHouse();
        y.push();
        Checks.due("one byte", y.sync(), 1);
        Checks.due("n", y.octet(1, 3), 1);
        y.push();
        y.cut(0, 0);
        Checks.due("LOST", y.sync(), IntegerHouse.LOST);
        Checks.due("DOWN", y.sync(), IntegerHouse.DOWN);
        y.start();
        Checks.due("no record waits behind start()", y.sync(), 0);
    }

    private static void writtenBlock() {
        IntegerHouse x = new IntegerHouse();
        // what lay in the block before is written over, with 0s behind the records
        x.poke(1, 251, 255);
        x.poke(1, 5, 255);
        x.poke(1, 255, 255);
        x.push();
        x.sync();
        int[] block = new int[256];
        int[] head = {0, 1, 1, 1, 3};
        int[] sum = {85, 128, 96, 153};
        System.arraycopy(head, 0, block, 0, 5);
        System.arraycopy(sum, 0, block, 252, 4);
        for (int i = 0; i < 256; i++) {
            Checks.due("byte " + i, x.octet(1, i), block[i]);
        }
    }

    /** THE SUM wraps at 32 bits: these were worked out elsewhere. */
    private static void sums() {
        IntegerHouse x = new IntegerHouse();
        x.push();
        x.push();
        x.pop();
        x.sync();
        dueSum(x, 1, 73, 197, 236, 176);
        x.push();
        x.sync();
        dueSum(x, 2, 124, 252, 244, 199);
        IntegerHouse y = new IntegerHouse();
        y.feed(0x76617220, 0x61623b63, 0x6c61696d, 0x20633d61, 0x623c313b);
        y.read();
        y.sync();
        dueSum(y, 1, 186, 59, 127, 58);
        IntegerHouse z = new IntegerHouse();
        Checks.read(z, blanks(247));
        z.sync();
        dueSum(z, 1, 56, 27, 227, 135);
        dueSum(z, 2, 120, 173, 34, 222);
    }

    private static void dueSum(IntegerHouse x, int block, int... sum) {
        for (int i = 0; i < 4; i++) {
            Checks.due("the sum of block " + block + ", byte " + i, x.octet(block, 252 + i), sum[i]);
        }
    }

    // ---- promise 5

    private static void cutArguments() {
        IntegerHouse x = new IntegerHouse();
        int[][] right = {{-1, 0}, {-1, 255}, {0, 0}, {0, 255}, {2000, 0}, {2000, 255}, {1, 128}};
        for (int[] r : right) {
            Checks.due("cut(" + r[0] + ", " + r[1] + ")", x.cut(r[0], r[1]), 1);
        }
        x.cut(0, 7);
        int[][] outside = {{-2, 0}, {2001, 0}, {0, -1}, {0, 256}, {-1, -1}, {-1, 256}, {FAR[0], 0}, {FAR[1], 0}, {0, FAR[0]}, {0, FAR[1]}};
        String before = Seen.of(x);
        for (int[] o : outside) {
            Checks.due("cut(" + o[0] + ", " + o[1] + ")", x.cut(o[0], o[1]), IntegerHouse.OUTSIDE);
        }
        Checks.due("nothing changes", Seen.of(x), before);
        x.push();
        Checks.due("what was set before stays set", x.sync(), IntegerHouse.LOST);
        Checks.due("behind 7 bytes", x.octet(1, 4), 3);
        for (int[] o : outside) {
            Checks.due("DOWN goes before OUTSIDE", x.cut(o[0], o[1]), IntegerHouse.DOWN);
        }
        Checks.due("DOWN", x.cut(0, 0), IntegerHouse.DOWN);
    }

    /** The n-th block that is written from now on, 0 being the next one, in one sync or in several. */
    private static void cutBlocks() {
        for (int n = 0; n < 5; n++) {
            IntegerHouse x = new IntegerHouse();
            x.cut(n, 0);
            for (int k = 0; k < n; k++) {
                Checks.due("an empty sync writes none", x.sync(), 0);
                x.push();
                Checks.due("sync " + k + " of cut(" + n + ", 0)", x.sync(), 1);
            }
            x.push();
            Checks.due("block " + n, x.sync(), IntegerHouse.LOST);
            Checks.due("start", x.start(), n);
            x.push();
            Checks.due("none is set for power to go", x.sync(), 1);
            IntegerHouse y = new IntegerHouse();
            Checks.read(y, blanks(1200));
            y.cut(n, 0);
            Checks.due("block " + n + " of five", y.sync(), IntegerHouse.LOST);
            for (int block = 1; block <= 6; block++) {
                Checks.due("block " + block, y.octet(block, 1), block <= n ? block : 0);
            }
            Checks.due("start", y.start(), 0);
            Checks.due("count(6)", y.count(6), 0);
        }
        IntegerHouse z = new IntegerHouse();
        Checks.read(z, blanks(1200));
        z.cut(5, 0);
        Checks.due("power goes at the block behind these", z.sync(), 5);
        z.push();
        Checks.due("and then it does", z.sync(), IntegerHouse.LOST);
        IntegerHouse w = new IntegerHouse();
        w.cut(0, 0);
        w.cut(1, 0);
        w.push();
        Checks.due("what was set before does not count", w.sync(), 1);
        w.cut(IntegerHouse.NONE, 0);
        for (int k = 0; k < 4; k++) {
            w.push();
            Checks.due("NONE: it stays", w.sync(), 1);
        }
    }

    private static void cutTears() {
        int[] sum = {85, 128, 96, 153};
        for (int tear : new int[] {0, 1, 2, 3, 4, 5, 6, 252, 253, 254, 255}) {
            IntegerHouse x = new IntegerHouse();
            for (int i = 0; i < 256; i++) {
                x.poke(1, i, 170);
            }
            x.push();
            x.cut(0, tear);
            Checks.due("LOST", x.sync(), IntegerHouse.LOST);
            int[] head = {0, 1, 1, 1, 3};
            for (int i = 0; i < 256; i++) {
                int fresh = i < 5 ? head[i] : i < 252 ? 0 : sum[i - 252];
                Checks.due("byte " + i + " behind a tear of " + tear, x.octet(1, i), i < tear ? fresh : 170);
            }
            Checks.due("start", x.start(), 0);
        }
    }

    /** A block is TORN till it is written whole, whatever its bytes are. */
    private static void torn() {
        IntegerHouse x = new IntegerHouse();
        x.push();
        x.cut(0, 255);
        x.sync();
        x.poke(1, 255, 153);
        int[] sum = {85, 128, 96, 153};
        dueSum(x, 1, sum);
        Checks.due("all bytes are right, and it is torn", x.start(), 0);
        Checks.due("count(6)", x.count(6), 0);
        x.push();
        x.cut(0, 0);
        x.sync();
        dueSum(x, 1, sum);
        Checks.due("torn again", x.start(), 0);
        x.push();
        Checks.due("written whole", x.sync(), 1);
        Checks.due("verify", x.verify(), -1);
        x.push();
        x.cut(0, 0);
        x.sync();
        Checks.due("it counts now", x.start(), 1);
        Checks.due("count(6)", x.count(6), 1);
        // a tear of 0 over a block that was right: its bytes stay, but it is torn
        IntegerHouse y = twoSyncs();
        y.poke(1, 60, 1);
        y.push();
        y.cut(0, 0);
        y.sync();
        y.start();
        y.poke(1, 60, 1);
        Checks.due("none is used", y.count(6), 0);
        y.push();
        y.cut(0, 0);
        y.sync();
        Checks.due("its bytes are those of before, and it is torn", y.start(), 0);
    }

    private static IntegerHouse twoSyncs() {
        IntegerHouse x = new IntegerHouse();
        x.push();
        x.sync();
        x.push();
        x.sync();
        return x;
    }

    // ---- promise 6

    private static void start() {
        IntegerHouse x = new IntegerHouse();
        Checks.due("STATE", x.start(), IntegerHouse.STATE);
        Checks.read(x, "var x; claim a = x < 1;");
        String before = Seen.of(x);
        Checks.due("STATE", x.start(), IntegerHouse.STATE);
        Checks.due("nothing changes", Seen.of(x), before);
        x.push();
        x.cut(0, 0);
        x.sync();
        Checks.due("nothing was written", x.start(), 0);
        for (int what = 0; what < 8; what++) {
            Checks.due("count(" + what + ")", x.count(what), 0);
        }
        Checks.due("STATE", x.start(), IntegerHouse.STATE);
        // from the block that is not right on, none counts, and of those before only those of syncs that were ended
        IntegerHouse y = new IntegerHouse();
        Checks.read(y, "var x;" + blanks(300));
        y.sync();
        Checks.read(y, "var y;" + blanks(600));
        y.sync();
        y.push();
        y.sync();
        down(y);
        y.poke(5, 100, 1);
        Checks.due("block 5 is not right", y.start(), 1);
        Checks.due("blocks 3 and 4 are of a sync that is not ended", y.count(6), 2);
        Checks.due("count(0)", y.count(0), 1);
        down(y);
        y.poke(5, 100, 1);
        Checks.due("block 3 is torn now", y.start(), 1);
        IntegerHouse z = twoSyncs();
        down(z);
        z.poke(2, 100, 1);
        Checks.due("the first of two", z.start(), 1);
        Checks.due("count(6)", z.count(6), 1);
        Checks.due("count(3)", z.count(3), 1);
        Checks.due("count(7)", z.count(7), 1);
        z.push();
        Checks.due("count(7) behind one more", z.count(7), 2);
    }

    /**
     * Puts these bytes of records where a house wrote its first sync, with a right sum, while it is DOWN: the house has
     * then one sync of them, and behind it one of a push().
     */
    private static IntegerHouse crafted(int... bytes) {
        IntegerHouse x = new IntegerHouse();
        int[] now = new int[256];
        int[] want = new int[256];
        x.push();
        x.sync();
        x.push();
        x.sync();
        down(x);
        int[] head = {0, 1, 1, bytes.length};
        System.arraycopy(head, 0, want, 0, 4);
        System.arraycopy(bytes, 0, want, 4, bytes.length);
        int s = 0;
        for (int i = 0; i < 252; i++) {
            s = Integer.rotateLeft(s ^ want[i], 5) * 0x9E3779B1;
        }
        for (int i = 0; i < 4; i++) {
            want[252 + i] = s >>> 24 - 8 * i & 255;
        }
        int[] head1 = {0, 1, 1, 1, 3};
        int[] sum1 = {85, 128, 96, 153};
        System.arraycopy(head1, 0, now, 0, 5);
        System.arraycopy(sum1, 0, now, 252, 4);
        for (int i = 0; i < 256; i++) {
            if (now[i] != want[i]) {
                Checks.due("poke", x.poke(1, i, now[i] ^ want[i]), want[i]);
            }
        }
        return x;
    }

    /** Acts done again, and layers then; the push() of the second sync is one of each. */
    private static IntegerHouse dueStart(String what, int acts, int layers, int... bytes) {
        IntegerHouse x = crafted(bytes);
        Checks.due("start: " + what, x.start(), acts + 1);
        Checks.due("layers: " + what, x.count(3), layers + 1);
        Checks.due("used: " + what, x.count(6), 2);
        Checks.due("waiting: " + what, x.count(5), 0);
        Checks.due("fault: " + what, x.fault(), 0);
        return x;
    }

    private static void startRecords() {
        dueStart("two records", 2, 2, 3, 3);
        dueStart("no such number: 0", 1, 1, 3, 0, 3);
        dueStart("no such number: 5", 1, 1, 3, 5, 3);
        dueStart("no such number: 255", 1, 1, 3, 255, 3);
        for (int number : new int[] {0, 5, 6, 17, 129, 130, 131, 132, 255}) {
            dueStart("no such number, and what would be a record of another", 1, 1, 3, number, 0, 0, 3, 3, 3, 3, 3, 3, 3, 3);
            dueStart("no such number, and one more of a text", 1, 1, 3, number, 0, 2, 32, 32, 3, 3);
        }
        dueStart("no such number at the first one", 0, 0, 9, 3, 3);
        dueStart("too few bytes of on: one", 1, 1, 3, 2);
        dueStart("too few bytes of on: eight", 1, 1, 3, 2, 0, 0, 0, 0, 0, 0, 0);
        dueStart("all bytes of an unknown on", 2, 2, 3, 2, 0, 0, 0, 0, 0, 0, 0, 1, 3);
        dueStart("too few bytes of read: one", 1, 1, 3, 1);
        dueStart("too few bytes of read: two", 1, 1, 3, 1, 0);
        dueStart("an empty text", 3, 2, 3, 1, 0, 0, 3);
        dueStart("too few bytes of a tape", 1, 1, 3, 1, 0, 2, 32);
        dueStart("just enough", 2, 1, 3, 1, 0, 2, 32, 32);
        dueStart("a push behind it", 3, 2, 3, 1, 0, 2, 32, 10, 3);
        dueStart("too few bytes of a tape of 256", 1, 1, 3, 1, 1, 0, 32, 32, 3);
    }

    private static final int[] TEXT = {1, 0, 20, 'v', 'a', 'r', ' ', 'a', 'b', ';', 'c', 'l', 'a', 'i', 'm', ' ', 'c', '=', 'a', 'b', '<', '1', ';'};

    private static int[] behindText(int... more) {
        int[] all = java.util.Arrays.copyOf(TEXT, TEXT.length + more.length);
        System.arraycopy(more, 0, all, TEXT.length, more.length);
        return all;
    }

    private static void startBooleans() {
        Checks.due("0", dueStart("on(0, false)", 3, 1, behindText(2, 0, 0, 0, 0, 0, 0, 0, 0, 3)).about(0, 0), 0);
        Checks.due("1", dueStart("on(0, true)", 3, 1, behindText(2, 0, 0, 0, 0, 0, 0, 0, 1, 3)).about(0, 0), 1);
        int[][] none = {{0, 0, 0, 2}, {0, 0, 0, 255}, {0, 0, 1, 0}, {0, 0, 1, 1}, {0, 1, 0, 0}, {0, 1, 0, 1}, {1, 0, 0, 0}, {1, 0, 0, 1},
            {128, 0, 0, 0}, {255, 255, 255, 255}};
        for (int[] n : none) {
            IntegerHouse x = dueStart("neither 1 nor 0", 1, 0, behindText(2, 0, 0, 0, 0, n[0], n[1], n[2], n[3], 3));
            Checks.due("it stays ON", x.about(0, 0), 1);
            // a claim that is not known goes not before what is no record at all
            dueStart("neither 1 nor 0", 1, 0, behindText(2, 0, 0, 0, 9, n[0], n[1], n[2], n[3], 3));
        }
    }

    private static void startClaims() {
        int[][] unknown = {{0, 0, 0, 1}, {0, 0, 0, 255}, {0, 0, 1, 0}, {0, 1, 0, 0}, {1, 0, 0, 0}, {128, 0, 0, 0}, {255, 255, 255, 255}};
        for (int[] u : unknown) {
            IntegerHouse x = dueStart("an unknown claim is passed over", 2, 1, behindText(2, u[0], u[1], u[2], u[3], 0, 0, 0, 0, 3));
            Checks.due("the other one stays ON", x.about(0, 0), 1);
        }
        // before its text it is not known
        int[] before = new int[9 + TEXT.length];
        before[0] = 2;
        System.arraycopy(TEXT, 0, before, 9, TEXT.length);
        Checks.due("ON", dueStart("on before the claim comes", 1, 0, before).about(0, 0), 1);
    }

    /** A tape of 2000 bytes is one, of 2001 is none. */
    private static void startTapes() {
        for (int more = 0; more < 2; more++) {
            IntegerHouse x = new IntegerHouse();
            Checks.read(x, "var x;" + blanks(1994));
            x.push();
            x.push();
            x.push();
            Checks.due("sync", x.sync(), 9);
            x.push();
            x.sync();
            x.push();
            x.cut(0, 0);
            x.sync();
            // 2000 is 0x7D0: one more takes the first push into the tape
            int[] want = new int[256];
            for (int i = 0; i < 256; i++) {
                want[i] = x.octet(1, i);
            }
            x.poke(1, 6, more);
            x.poke(1, 4 + 3, 0);
            mend(x, 1);
            Checks.due("a tape of " + (2000 + more), x.start(), more == 0 ? 5 : 1);
            Checks.due("count(0)", x.count(0), more == 0 ? 1 : 0);
            Checks.due("count(3)", x.count(3), more == 0 ? 4 : 1);
        }
        int[] long1 = new int[248];
        long1[0] = 1;
        long1[1] = 255;
        long1[2] = 255;
        dueStart("a tape of 65535", 0, 0, long1);
    }

    private static void mend(IntegerHouse x, int block) {
        int s = 0;
        for (int i = 0; i < 252; i++) {
            s = Integer.rotateLeft(s ^ x.octet(block, i), 5) * 0x9E3779B1;
        }
        for (int i = 0; i < 4; i++) {
            x.poke(block, 252 + i, x.octet(block, 252 + i) ^ s >>> 24 - 8 * i);
        }
    }

    /** Layers that would be refused are passed over: the ninth, and leaving none. */
    private static void startLayers() {
        dueStart("pop of none", 0, 0, 4);
        dueStart("pop of none, and one layer", 1, 1, 4, 3);
        dueStart("one layer, and pop of it, and of none", 2, 0, 3, 4, 4, 4);
        dueStart("seven", 7, 7, 3, 3, 3, 3, 3, 3, 3);
        IntegerHouse x = crafted(3, 3, 3, 3, 3, 3, 3, 3, 3, 3);
        Checks.due("eight, and the ninth, tenth and that of the next sync are passed over", x.start(), 8);
        Checks.due("count(3)", x.count(3), 8);
        Checks.due("push", x.push(), IntegerHouse.ROOM);
        IntegerHouse y = crafted(3, 3, 3, 3, 3, 3, 3, 3, 3, 4);
        Checks.due("a pop behind the ninth leaves the eighth", y.start(), 10);
        Checks.due("count(3)", y.count(3), 8);
    }

    private static void startFaults() {
        // a wrong text, and one whose names there are already: what is behind them is done
        dueStart("a fault", 1, 1, 1, 0, 1, '!', 3);
        IntegerHouse x = dueStart("a name that is told twice", 2, 1, behindText(1, 0, 6, 'v', 'a', 'r', ' ', 'c', ';', 3));
        Checks.due("count(0)", x.count(0), 1);
        Checks.due("read", Checks.read(x, "var c;"), -1004);
        Checks.due("fault", x.fault(), 3);
        down(x);
        x.start();
        Checks.due("the latest fault stays", x.fault(), 3);
    }

    /** The log's room is not asked when acts are done again. */
    private static void startFull() {
        IntegerHouse x = new IntegerHouse();
        for (int k = 0; k < 12; k++) {
            Checks.read(x, blanks(2000));
        }
        Checks.read(x, "var x; claim a = x < 1;" + blanks(242));
        for (int k = 0; k < 15; k++) {
            x.push();
            x.pop();
        }
        x.push();
        x.push();
        x.push();
        Checks.due("count(5)", x.count(5), 99 * 248 - 215);
        Checks.due("sync", x.sync(), 99);
        x.on(0, false);
        x.cut(0, 255);
        Checks.due("the last block", x.sync(), IntegerHouse.LOST);
        Checks.due("all acts are done again", x.start(), 12 + 1 + 33);
        Checks.due("count(6)", x.count(6), 99);
        Checks.due("count(1)", x.count(1), 1);
        Checks.due("count(3)", x.count(3), 3);
        Checks.due("there is room for one block more", x.on(0, false), 1);
        Checks.due("sync", x.sync(), 1);
        Checks.due("count(6)", x.count(6), 100);
        Checks.due("and for none behind it", x.on(0, false), IntegerHouse.ROOM);
    }

    // ---- promise 7

    private static void verify() {
        IntegerHouse x = new IntegerHouse();
        x.poke(1, 0, 1);
        Checks.due("none is used", x.verify(), -1);
        x.poke(1, 0, 1);
        Checks.read(x, blanks(244));
        Checks.due("247 bytes", x.sync(), 1);
        Checks.read(x, blanks(245));
        Checks.due("248 bytes", x.sync(), 1);
        Checks.read(x, blanks(400));
        Checks.due("two blocks", x.sync(), 2);
        Checks.due("all are right", x.verify(), -1);
        int[][] pokes = {{4, 255, 1}, {4, 252, 128}, {3, 251, 1}, {2, 4, 1}, {1, 0, 1}};
        for (int[] poke : pokes) {
            x.poke(poke[0], poke[1], poke[2]);
            Checks.due("the first that is not", x.verify(), poke[0]);
        }
        for (int[] poke : pokes) {
            x.poke(poke[0], poke[1], poke[2]);
        }
        Checks.due("all are right again", x.verify(), -1);
        x.poke(5, 0, 1);
        Checks.due("the block behind is not used", x.verify(), -1);
        // with right sums: n of a block that is not the last one of its sync is 248, of the last one 1 to 248
        int[][] wrong = {{3, 3, 248 ^ 247}, {3, 3, 248 ^ 249}, {3, 2, 0 ^ 2}, {4, 2, 1 ^ 0}, {4, 2, 1 ^ 255}, {4, 3, 155 ^ 0}, {4, 3, 155 ^ 249},
            {4, 3, 155 ^ 255}, {4, 0, 1}, {4, 1, 4 ^ 3}, {4, 1, 4 ^ 5}};
        for (int[] w : wrong) {
            x.poke(w[0], w[1], w[2]);
            mend(x, w[0]);
            Checks.due("byte " + w[1] + " of block " + w[0], x.verify(), w[0]);
            x.poke(w[0], w[1], w[2]);
            mend(x, w[0]);
            Checks.due("right again", x.verify(), -1);
        }
        int[][] right = {{4, 3, 155 ^ 1}, {4, 3, 155 ^ 248}, {3, 2, 1}, {4, 200, 77}};
        for (int[] r : right) {
            x.poke(r[0], r[1], r[2]);
            mend(x, r[0]);
            Checks.due("right all the same: byte " + r[1] + " of block " + r[0], x.verify(), -1);
            x.poke(r[0], r[1], r[2]);
            mend(x, r[0]);
        }
        down(x);
        Checks.due("DOWN", x.verify(), IntegerHouse.DOWN);
    }

    // ---- promises 8 and 9

    private static void octetAndPoke() {
        IntegerHouse x = new IntegerHouse();
        int[][] corners = {{1, 0}, {1, 255}, {100, 0}, {100, 255}};
        int[][] outside = {{0, 0}, {0, 255}, {101, 0}, {101, 255}, {1, -1}, {1, 256}, {100, -1}, {100, 256}, {-1, 0}, {FAR[0], 0}, {FAR[1], 0},
            {1, FAR[0]}, {1, FAR[1]}};
        for (int round = 0; round < 2; round++) {
            for (int[] c : corners) {
                Checks.due("octet", x.octet(c[0], c[1]), round == 0 ? 0 : 91);
                Checks.due("poke", x.poke(c[0], c[1], 90), round == 0 ? 90 : 1);
                Checks.due("octet", x.octet(c[0], c[1]), round == 0 ? 90 : 1);
                Checks.due("poke back", x.poke(c[0], c[1], 91), round == 0 ? 1 : 90);
                Checks.due("poke to 91", x.poke(c[0], c[1], 90 ^ round), round == 0 ? 91 : 1);
            }
            for (int[] o : outside) {
                Checks.dueThrow("octet", IndexOutOfBoundsException.class, () -> x.octet(o[0], o[1]));
                Checks.dueThrow("poke", IndexOutOfBoundsException.class, () -> x.poke(o[0], o[1], 255));
            }
            if (round == 0) {
                x.push();
                x.sync();
                for (int i = 0; i < 256; i++) {
                    x.poke(1, i, x.octet(1, i));
                }
                x.poke(1, 0, 91);
                x.poke(1, 255, 91);
                down(x);
            }
        }
        int[][] masks = {{255, 255}, {256, 0}, {-256, 0}, {-1, 255}, {FAR[0], 0}, {FAR[1], 255}, {0x12345678, 0x78}, {0, 0}};
        for (int[] m : masks) {
            IntegerHouse y = new IntegerHouse();
            Checks.due("poke with " + m[0], y.poke(50, 50, m[0]), m[1]);
            Checks.due("and again", y.poke(50, 50, m[0]), 0);
        }
    }

    // ---- promise 10

    private static void count() {
        IntegerHouse x = Checks.house("var x; claim a = x < 1; claim b = a;");
        x.on(0, false);
        x.sync();
        x.push();
        Checks.tape(x, "abcde");
        int[] counts = {1, 2, 1, 1, 5, 1, 1, 3};
        for (int what = 0; what < 8; what++) {
            Checks.due("count(" + what + ")", x.count(what), counts[what]);
        }
        int[] others = {-1, 8, FAR[0], FAR[1]};
        for (int what : others) {
            Checks.due("count(" + what + ")", x.count(what), IntegerHouse.NONE);
        }
        x.cut(0, 0);
        x.sync();
        for (int what : others) {
            Checks.due("count(" + what + ") while DOWN", x.count(what), IntegerHouse.DOWN);
        }
        for (int what = 0; what < 8; what++) {
            Checks.due("count(" + what + ") while DOWN", x.count(what), what == 4 ? 5 : IntegerHouse.DOWN);
        }
        x.start();
        Checks.due("acts done again", x.count(7), 2);
        x.on(1, true);
        Checks.due("and since, though nothing changed by it", x.count(7), 3);
        x.find();
        x.on(9, true);
        x.decide();
        Checks.due("what is refused and what is no act counts not", x.count(7), 3);
    }

    // ---- room

    /** Each of the acts, when its record is just as long as there is room, and one longer. */
    private static void logRoom() {
        int[] sizes = {1, 9, 1, 3, 26};
        for (int act = 0; act < sizes.length; act++) {
            for (int less = 0; less < 2; less++) {
                IntegerHouse x = Checks.house("var x; claim a = x < 1;" + blanks(1900));
                x.push();
                for (int k = 0; k < 11; k++) {
                    Checks.read(x, blanks(1997));
                }
                int left = 24800 - x.count(5) - sizes[act] + less;
                while (left > 0) {
                    int size = Math.min(2003, left);
                    if (left - size > 0 && left - size < 3) {
                        size -= 3;
                    }
                    Checks.due("read", Checks.read(x, blanks(size - 3)), 0);
                    left -= size;
                }
                String before = Seen.of(x);
                Checks.due("count(5)", x.count(5), 24800 - sizes[act] + less);
                int[] answers = {2, 1, 0, 0, 1};
                int answer = act == 0 ? x.push() : act == 1 ? x.on(0, false) : act == 2 ? x.pop() : act == 3 ? Checks.read(x, "")
                    : Checks.read(x, "var y; claim b = y < 1;");
                Checks.due("act " + act + " with room for " + (sizes[act] - less), answer, less == 0 ? answers[act] : IntegerHouse.ROOM);
                if (less == 1) {
                    Checks.due("nothing changes", Seen.of(x), before);
                    Checks.due("the tape is used up", x.count(4), 0);
                    Checks.due("fault", x.fault(), 0);
                } else {
                    Checks.due("count(5)", x.count(5), 24800);
                    Checks.due("sync", x.sync(), 100);
                }
            }
        }
    }

    /** On a full log the other refusals go first. */
    private static void refusedOnFullLog() {
        IntegerHouse x = new IntegerHouse();
        for (int k = 0; k < 12; k++) {
            Checks.read(x, k == 0 ? "var x; claim a = x < 1;" + blanks(1977) : blanks(2000));
        }
        Checks.read(x, blanks(761));
        Checks.due("count(5)", x.count(5), 24800);
        String before = Seen.of(x);
        Checks.due("on(1, true)", x.on(1, true), IntegerHouse.UNKNOWN);
        Checks.due("on(-1, true)", x.on(-1, true), IntegerHouse.UNKNOWN);
        Checks.due("pop", x.pop(), IntegerHouse.STATE);
        Checks.due("on(0, true)", x.on(0, true), IntegerHouse.ROOM);
        Checks.due("push", x.push(), IntegerHouse.ROOM);
        Checks.due("read", Checks.read(x, ""), IntegerHouse.ROOM);
        Checks.due("read of a fault", Checks.read(x, " var x;"), -1005);
        Checks.due("fault", x.fault(), 3);
        Checks.due("nothing changes", Seen.of(x), before);
        Checks.due("what is no act needs no room", x.decide(), 1);
        x.cut(99, 255);
        Checks.due("power goes at the hundredth block", x.sync(), IntegerHouse.LOST);
        Checks.due("DOWN goes before all others", x.on(-1, true), IntegerHouse.DOWN);
        Checks.due("DOWN", x.pop(), IntegerHouse.DOWN);
        Checks.due("nothing of it is left", x.start(), 0);
        Checks.due("push", x.push(), 1);
    }
}
