/** Promises 1 to 10: the tape, the log, power. */
final class LogTest {
    private static final int LAST = 2, SIZE = 3;

    public static void main(String[] args) {
        newObject();
        feed();
        end();
        sync();
        blocks();
        cut();
        tornBlocks();
        start();
        startPassesOver();
        staleBlocks();
        verify();
        octetAndPoke();
        count();
        room();
        downRefusals();
        toldStays();
        Checks.finish();
    }

    private static void newObject() {
        IntegerHouse x = new IntegerHouse();
        for (int what = 0; what < 8; what++) {
            Checks.due("count(" + what + ") of a new object", x.count(what), 0);
        }
        Checks.due("fault", x.fault(), 0);
        Checks.due("height", x.height(), -1);
        Checks.due("number", x.number(), 0);
        Checks.due("printed", x.printed(0), -1);
        Checks.due("inCore", x.inCore(0), -1);
        Checks.due("verify", x.verify(), -1);
        Checks.due("start", x.start(), IntegerHouse.STATE);
        Checks.due("audit", x.audit(), 0);
        Checks.due("decide", x.decide(), 1);
        for (int i = 0; i < 256; i += 5) {
            Checks.due("octet(1, " + i + ")", x.octet(1, i), 0);
            Checks.due("octet(100, " + i + ")", x.octet(100, i), 0);
        }
        Checks.dueThrow("value", IndexOutOfBoundsException.class, () -> new IntegerHouse().value(0));
        Checks.dueThrow("half", IndexOutOfBoundsException.class, () -> new IntegerHouse().half(0, 0));
        Checks.dueThrow("takes", IndexOutOfBoundsException.class, () -> new IntegerHouse().takes(0, 0));
        Checks.dueThrow("fraction", IndexOutOfBoundsException.class, () -> new IntegerHouse().fraction(0));
        Checks.dueThrow("best", IndexOutOfBoundsException.class, () -> new IntegerHouse().best(0));
        Checks.dueThrow("line", IndexOutOfBoundsException.class, () -> new IntegerHouse().line(1, 0));
    }

    private static void feed() {
        IntegerHouse x = new IntegerHouse();
        for (int k = 1; k <= 100; k++) {
            Checks.due("feed", x.feed(0x20202020, 0x20202020, 0x20202020, 0x20202020, 0x20202020), 20 * k);
        }
        Checks.dueThrow("feed", IllegalStateException.class, () -> x.feed(0, 0, 0, 0, 0));
        Checks.due("count(4)", x.count(4), 2000);
        x.end(1980);
        Checks.due("feed", x.feed(0, 0, 0, 0, 0), 2000);
        x.end(1981);
        Checks.dueThrow("feed", IllegalStateException.class, () -> x.feed(0, 0, 0, 0, 0));
        Checks.due("count(4)", x.count(4), 1981);
        x.end(1980);
        Checks.due("read", x.read(), 0);
        Checks.due("count(4)", x.count(4), 0);
        // each number's highest byte first
        IntegerHouse y = new IntegerHouse();
        y.feed('v' << 24 | 'a' << 16 | 'r' << 8 | ' ', 'a' << 24 | 'b' << 16 | ';' << 8 | ' ', 0, 0, 0x20202021);
        y.end(7);
        Checks.due("read", y.read(), 0);
        Checks.due("count(0)", y.count(0), 1);
        // a byte above 127 begins no token
        y.feed(0x80FFFFFF, -1, -1, -1, -1);
        Checks.due("read", y.read(), -1000);
        Checks.due("fault", y.fault(), 1);
    }

    private static void end() {
        IntegerHouse x = new IntegerHouse();
        x.feed(0x76617220, 0x783b2020, 0, 0, 0);
        Checks.dueThrow("end(21)", IllegalArgumentException.class, () -> endOf(x, 21));
        Checks.dueThrow("end(-1)", IllegalArgumentException.class, () -> endOf(x, -1));
        Checks.due("count(4)", x.count(4), 20);
        x.end(20);
        Checks.due("count(4)", x.count(4), 20);
        x.end(6);
        Checks.due("count(4)", x.count(4), 6);
        Checks.dueThrow("end(7)", IllegalArgumentException.class, () -> endOf(x, 7));
        Checks.due("read", x.read(), 0);
        Checks.due("count(0)", x.count(0), 1);
        x.end(0);
    }

    private static long endOf(IntegerHouse x, int n) {
        x.end(n);
        return 0;
    }

    private static int sumOf(IntegerHouse x, int block) {
        int s = 0;
        for (int i = 0; i < 252; i++) {
            s = Integer.rotateLeft(s ^ x.octet(block, i), 5) * 0x9E3779B1;
        }
        return s;
    }

    private static int intAt(IntegerHouse x, int block, int i) {
        return x.octet(block, i) << 24 | x.octet(block, i + 1) << 16 | x.octet(block, i + 2) << 8 | x.octet(block, i + 3);
    }

    private static void mend(IntegerHouse x, int block) {
        int want = sumOf(x, block);
        int has = intAt(x, block, 252);
        for (int i = 0; i < 4; i++) {
            x.poke(block, 252 + i, (want ^ has) >>> 24 - 8 * i);
        }
    }

    private static void sync() {
        IntegerHouse x = new IntegerHouse();
        Checks.due("sync", x.sync(), 0);
        x.push();
        x.push();
        x.pop();
        Checks.due("count(5)", x.count(5), 3);
        Checks.due("sync", x.sync(), 1);
        Checks.due("count(5)", x.count(5), 0);
        Checks.due("count(6)", x.count(6), 1);
        Checks.due("sync", x.sync(), 0);
        int[] head = {0, 1, 1, 3, 3, 3, 4, 0};
        for (int i = 0; i < head.length; i++) {
            Checks.due("octet(1, " + i + ")", x.octet(1, i), head[i]);
        }
        Checks.due("the sum", intAt(x, 1, 252), sumOf(x, 1));
        Checks.due("read", Checks.read(x, "var x; claim a = x < 1;"), 1);
        Checks.due("on", x.on(0, false), 1);
        Checks.due("on", x.on(0, true), 1);
        Checks.due("count(5)", x.count(5), 3 + 23 + 18);
        Checks.due("sync", x.sync(), 1);
        Checks.due("octet(2, 1)", x.octet(2, 1), 2);
        Checks.due("octet(2, 3)", x.octet(2, SIZE), 44);
        Checks.due("the act", x.octet(2, 4), 1);
        Checks.due("the tape's length", x.octet(2, 5) << 8 | x.octet(2, 6), 23);
        Checks.due("the tape's first byte", x.octet(2, 7), 'v');
        int[] ons = {2, 0, 0, 0, 0, 0, 0, 0, 0, 2, 0, 0, 0, 0, 0, 0, 0, 1, 0};
        for (int i = 0; i < ons.length; i++) {
            Checks.due("the records of on, byte " + i, x.octet(2, 30 + i), ons[i]);
        }
    }

    /** A sync of more than one block: 248 bytes in all but the last one. */
    private static void blocks() {
        IntegerHouse x = new IntegerHouse();
        Checks.read(x, "var x;" + Checks.repeat(" ", 487));
        Checks.due("count(5)", x.count(5), 496);
        Checks.due("sync", x.sync(), 2);
        Checks.due("octet(1, 2)", x.octet(1, LAST), 0);
        Checks.due("octet(1, 3)", x.octet(1, SIZE), 248);
        Checks.due("octet(2, 2)", x.octet(2, LAST), 1);
        Checks.due("octet(2, 3)", x.octet(2, SIZE), 248);
        x.push();
        Checks.due("sync", x.sync(), 1);
        Checks.read(x, Checks.repeat(" ", 494));
        Checks.due("sync", x.sync(), 3);
        Checks.due("octet(6, 3)", x.octet(6, SIZE), 1);
        Checks.due("octet(6, 4)", x.octet(6, 4), 32);
        Checks.due("octet(6, 5)", x.octet(6, 5), 0);
        Checks.due("count(6)", x.count(6), 6);
        x.cut(0, 0);
        x.push();
        Checks.due("sync", x.sync(), IntegerHouse.LOST);
        Checks.due("start", x.start(), 3);
        Checks.due("count(6)", x.count(6), 6);
    }

    private static void cut() {
        IntegerHouse x = new IntegerHouse();
        Checks.due("cut(-2, 0)", x.cut(-2, 0), IntegerHouse.OUTSIDE);
        Checks.due("cut(2001, 0)", x.cut(2001, 0), IntegerHouse.OUTSIDE);
        Checks.due("cut(0, -1)", x.cut(0, -1), IntegerHouse.OUTSIDE);
        Checks.due("cut(0, 256)", x.cut(0, 256), IntegerHouse.OUTSIDE);
        Checks.due("cut(-1, 256)", x.cut(-1, 256), IntegerHouse.OUTSIDE);
        Checks.due("cut(2000, 255)", x.cut(2000, 255), 1);
        Checks.due("cut(0, 0)", x.cut(0, 0), 1);
        Checks.due("cut(-1, 0)", x.cut(IntegerHouse.NONE, 0), 1);
        x.push();
        Checks.due("sync", x.sync(), 1);
        // the second block from now on
        x.cut(1, 9);
        x.push();
        Checks.due("sync", x.sync(), 1);
        x.push();
        Checks.due("sync", x.sync(), IntegerHouse.LOST);
        Checks.due("cut", x.cut(0, 0), IntegerHouse.DOWN);
        Checks.due("cut(9999, 0)", x.cut(9999, 0), IntegerHouse.DOWN);
        Checks.due("start", x.start(), 2);
        // none is set behind start()
        x.push();
        Checks.due("sync", x.sync(), 1);
        x.cut(1, 0);
        x.cut(0, 0);
        x.push();
        Checks.due("sync", x.sync(), IntegerHouse.LOST);
        x.start();
        x.push();
        x.cut(0, 0);
        Checks.due("a cut that was OUTSIDE changes nothing", x.cut(5, 300), IntegerHouse.OUTSIDE);
        Checks.due("sync", x.sync(), IntegerHouse.LOST);
    }

    private static void tornBlocks() {
        IntegerHouse x = new IntegerHouse();
        x.push();
        x.cut(0, 5);
        Checks.due("sync", x.sync(), IntegerHouse.LOST);
        int[] head = {0, 1, 1, 1, 3, 0};
        for (int i = 0; i < head.length; i++) {
            Checks.due("octet(1, " + i + ")", x.octet(1, i), head[i]);
        }
        Checks.due("octet(1, 255)", x.octet(1, 255), 0);
        // the bytes may be right: it is torn all the same
        mend(x, 1);
        Checks.due("start", x.start(), 0);
        Checks.due("count(3)", x.count(3), 0);
        Checks.due("count(6)", x.count(6), 0);
        x.push();
        Checks.due("sync", x.sync(), 1);
        Checks.due("verify", x.verify(), -1);
        x.push();
        x.cut(0, 0);
        x.sync();
        Checks.due("start", x.start(), 1);
        Checks.due("octet(2, 1)", x.octet(2, 1), 0);
        // the first block of two stays written, but its sync is not ended
        Checks.read(x, "var x;" + Checks.repeat(" ", 400));
        x.cut(1, 255);
        Checks.due("sync", x.sync(), IntegerHouse.LOST);
        Checks.due("octet(2, 1)", x.octet(2, 1), 2);
        Checks.due("start", x.start(), 1);
        Checks.due("count(0)", x.count(0), 0);
        Checks.due("count(6)", x.count(6), 1);
    }

    private static void start() {
        IntegerHouse x = new IntegerHouse();
        Checks.read(x, "var x y; claim a = x < 1; claim b = y > 2;");
        x.push();
        x.on(0, false);
        Checks.read(x, "var z; claim c = z = 0;");
        x.sync();
        x.cut(1, 0);
        x.on(1, false);
        x.on(0, true);
        x.sync();
        x.push();
        x.sync();
        Checks.due("start", x.start(), 6);
        Checks.due("about(0, 0)", x.about(0, 0), 1);
        Checks.due("about(1, 0)", x.about(1, 0), 0);
        x.on(0, false);
        x.on(1, true);
        x.sync();
        x.push();
        x.on(1, false);
        Checks.due("count(7)", x.count(7), 10);
        x.cut(0, 100);
        Checks.due("sync", x.sync(), IntegerHouse.LOST);
        Checks.due("start", x.start(), 8);
        int[] counts = {3, 3, 2, 1, 0, 0, 3, 8};
        for (int what = 0; what < 8; what++) {
            Checks.due("count(" + what + ")", x.count(what), counts[what]);
        }
        Checks.due("about(0, 0)", x.about(0, 0), 0);
        Checks.due("about(1, 0)", x.about(1, 0), 1);
        Checks.due("about(2, 4)", x.about(2, 4), 1);
        Checks.due("start", x.start(), IntegerHouse.STATE);
        Checks.due("pop", x.pop(), 0);
        Checks.due("count(0)", x.count(0), 2);
        Checks.due("about(0, 0)", x.about(0, 0), 1);
        Checks.due("count(7)", x.count(7), 9);
    }

    /** Records are changed on the disk, with right sums: acts that would be refused are passed over. */
    private static void startPassesOver() {
        IntegerHouse x = new IntegerHouse();
        x.push();
        x.push();
        x.push();
        x.sync();
        Checks.read(x, "var x; claim a = x < 1;");
        x.sync();
        x.on(0, false);
        x.push();
        x.sync();
        x.push();
        x.cut(0, 0);
        x.sync();
        // pop, pop of nothing left, push
        x.poke(1, 4, 3 ^ 4);
        mend(x, 1);
        Checks.due("start", x.start(), 5);
        Checks.due("count(3)", x.count(3), 3);
        // on(7, false): unknown
        again(x, 3, 8, 7);
        Checks.due("start", x.start(), 4);
        Checks.due("count(2)", x.count(2), 1);
        // on(2^24, false): unknown, too
        again(x, 3, 8, 7);
        x.poke(3, 5, 1);
        mend(x, 3);
        Checks.due("start", x.start(), 4);
        Checks.due("count(2)", x.count(2), 1);
        again(x, 3, 5, 1);
        Checks.due("start", x.start(), 5);
        Checks.due("count(2)", x.count(2), 0);
        again(x, 3, 8, 7);
        // on(0, 2): no record, the push behind it is passed over
        again(x, 3, 8, 7);
        x.poke(3, 12, 2);
        mend(x, 3);
        Checks.due("start", x.start(), 3);
        x.poke(3, 12, 2);
        mend(x, 3);
        // a text with a fault is passed over; so then is on(0, false)
        again(x, 2, 7, 1);
        Checks.due("start", x.start(), 3);
        Checks.due("count(1)", x.count(1), 0);
        Checks.due("fault", x.fault(), 0);
        // a tape of more bytes than there are in its sync
        again(x, 2, 6, 128);
        Checks.due("start", x.start(), 3);
        // a number that no record has: the rest of its sync is passed over
        again(x, 1, 5, 3 ^ 5);
        Checks.due("start", x.start(), 1);
        Checks.due("count(3)", x.count(3), 1);
        Checks.due("count(6)", x.count(6), 3);
    }

    private static void again(IntegerHouse x, int block, int i, int mask) {
        x.push();
        x.cut(0, 0);
        x.sync();
        x.poke(block, i, mask);
        mend(x, block);
    }

    /** A block behind those that are used counts for start() if it is right, however long ago it was written. */
    private static void staleBlocks() {
        IntegerHouse x = new IntegerHouse();
        x.push();
        x.sync();
        x.push();
        x.push();
        x.sync();
        x.poke(1, 10, 1);
        x.cut(0, 0);
        x.push();
        x.sync();
        Checks.due("start", x.start(), 0);
        Checks.due("count(6)", x.count(6), 0);
        x.push();
        Checks.due("sync", x.sync(), 1);
        Checks.due("count(6)", x.count(6), 1);
        x.cut(0, 0);
        Checks.read(x, "var x;" + Checks.repeat(" ", 500));
        x.cut(2, 0);
        Checks.due("sync", x.sync(), IntegerHouse.LOST);
        Checks.due("start", x.start(), 1);
        IntegerHouse y = new IntegerHouse();
        y.push();
        y.sync();
        y.push();
        y.sync();
        y.poke(1, 4, 1);
        y.cut(0, 255);
        y.push();
        y.sync();
        Checks.due("start", y.start(), 0);
        // block 2 was written before: now that block 1 is right again, both are used
        y.push();
        y.cut(1, 0);
        y.sync();
        y.push();
        y.pop();
        y.pop();
        Checks.read(y, Checks.repeat(" ", 1000));
        y.cut(5, 0);
        Checks.due("sync", y.sync(), 5);
        IntegerHouse z = new IntegerHouse();
        for (int k = 0; k < 4; k++) {
            z.push();
            z.sync();
        }
        z.poke(1, 50, 1);
        z.push();
        z.cut(0, 0);
        z.sync();
        Checks.due("start", z.start(), 0);
        z.poke(1, 50, 1);
        z.push();
        z.cut(0, 4);
        z.sync();
        // block 1 is torn, though all its bytes are as they were
        Checks.due("verify", z.octet(1, 4), 3);
        Checks.due("start", z.start(), 0);
        z.push();
        z.sync();
        z.push();
        z.pop();
        z.cut(0, 0);
        z.sync();
        Checks.due("blocks 3 and 4 lie behind a torn one", z.start(), 1);
        Checks.due("count(6)", z.count(6), 1);
        z.push();
        z.sync();
        z.cut(2, 0);
        z.push();
        z.sync();
        Checks.due("count(6)", z.count(6), 3);
        z.push();
        z.sync();
        z.push();
        Checks.due("sync", z.sync(), IntegerHouse.LOST);
        Checks.due("start", z.start(), 4);
    }

    private static void verify() {
        IntegerHouse x = new IntegerHouse();
        for (int k = 0; k < 3; k++) {
            x.push();
            x.sync();
        }
        Checks.due("verify", x.verify(), -1);
        x.poke(3, 200, 1);
        Checks.due("verify", x.verify(), 3);
        x.poke(2, 255, 128);
        Checks.due("verify", x.verify(), 2);
        x.poke(1, 100, 2);
        Checks.due("verify", x.verify(), 1);
        x.poke(1, 100, 2);
        x.poke(2, 255, 128);
        x.poke(3, 200, 1);
        x.poke(4, 0, 9);
        Checks.due("verify", x.verify(), -1);
        // each with a right sum: a wrong number, a third byte of 2, sizes that cannot be
        int[][] pokes = {{1, 1}, {0, 1}, {2, 2}, {2, 1}, {3, 1}, {3, 1 ^ 249}};
        for (int[] poke : pokes) {
            x.poke(2, poke[0], poke[1]);
            mend(x, 2);
            Checks.due("verify with byte " + poke[0] + " wrong", x.verify(), 2);
            x.poke(2, poke[0], poke[1]);
            mend(x, 2);
            Checks.due("verify", x.verify(), -1);
        }
        x.poke(2, 3, 1 ^ 248);
        mend(x, 2);
        Checks.due("verify", x.verify(), -1);
        x.poke(2, 2, 1);
        mend(x, 2);
        Checks.due("verify", x.verify(), -1);
        x.cut(0, 0);
        x.push();
        x.sync();
        Checks.due("verify", x.verify(), IntegerHouse.DOWN);
    }

    private static void octetAndPoke() {
        IntegerHouse x = new IntegerHouse();
        int[][] outside = {{0, 0}, {101, 0}, {1, -1}, {1, 256}, {-1, 5}};
        for (int[] o : outside) {
            Checks.dueThrow("octet", IndexOutOfBoundsException.class, () -> x.octet(o[0], o[1]));
            Checks.dueThrow("poke", IndexOutOfBoundsException.class, () -> x.poke(o[0], o[1], 1));
        }
        Checks.due("poke", x.poke(100, 255, 0x1F5), 0xF5);
        Checks.due("octet", x.octet(100, 255), 0xF5);
        Checks.due("poke", x.poke(100, 255, -1), 0x0A);
        Checks.due("poke", x.poke(1, 0, 0x100), 0);
        x.push();
        x.cut(0, 0);
        x.sync();
        Checks.due("poke", x.poke(100, 255, 0), 0x0A);
        Checks.due("octet", x.octet(100, 255), 0x0A);
        Checks.dueThrow("octet", IndexOutOfBoundsException.class, () -> x.octet(0, 0));
    }

    private static void count() {
        IntegerHouse x = Checks.house("var x y z; claim a = x = 1; claim b = y = 2;");
        x.on(1, false);
        x.push();
        Checks.tape(x, "abc");
        int[] counts = {3, 2, 1, 1, 3, 3 + 44 + 9 + 1, 0, 3};
        for (int what = 0; what < 8; what++) {
            Checks.due("count(" + what + ")", x.count(what), counts[what]);
        }
        Checks.due("count(-1)", x.count(-1), -1);
        Checks.due("count(8)", x.count(8), -1);
        x.sync();
        Checks.due("count(6)", x.count(6), 1);
        x.cut(0, 0);
        x.push();
        x.sync();
        for (int what = -1; what < 9; what++) {
            Checks.due("count(" + what + ")", x.count(what), what == 4 ? 3 : IntegerHouse.DOWN);
        }
    }

    /** The log has 100 blocks of 248 bytes. */
    private static void room() {
        IntegerHouse x = new IntegerHouse();
        String blank = Checks.repeat(" ", 2000);
        for (int k = 0; k < 12; k++) {
            Checks.due("read", Checks.read(x, blank), 0);
            if (k % 3 == 0) {
                x.end(0);
            }
        }
        // 24036 bytes wait; 24800 - 24036 = 764
        Checks.due("count(5)", x.count(5), 24036);
        Checks.due("read", Checks.read(x, Checks.repeat(" ", 762)), IntegerHouse.ROOM);
        Checks.due("count(4)", x.count(4), 0);
        Checks.due("read", Checks.read(x, "var x; claim a = x = 1;" + Checks.repeat(" ", 739)), IntegerHouse.ROOM);
        Checks.due("count(0)", x.count(0), 0);
        Checks.due("count(1)", x.count(1), 0);
        Checks.due("read", Checks.read(x, "!" + Checks.repeat(" ", 762)), -1000);
        Checks.due("read", Checks.read(x, "var x; claim a = x = 1;" + Checks.repeat(" ", 728)), 1);
        Checks.due("on(1, true)", x.on(1, true), IntegerHouse.UNKNOWN);
        Checks.due("pop", x.pop(), IntegerHouse.STATE);
        Checks.due("on", x.on(0, false), 1);
        Checks.due("on", x.on(0, false), IntegerHouse.ROOM);
        Checks.due("about(0, 0)", x.about(0, 0), 0);
        Checks.due("push", x.push(), 1);
        Checks.due("push", x.push(), IntegerHouse.ROOM);
        Checks.due("pop", x.pop(), IntegerHouse.ROOM);
        Checks.due("count(3)", x.count(3), 1);
        Checks.due("count(5)", x.count(5), 24800);
        Checks.due("sync", x.sync(), 100);
        Checks.due("push", x.push(), IntegerHouse.ROOM);
        Checks.due("read", Checks.read(x, ""), IntegerHouse.ROOM);
        Checks.due("verify", x.verify(), -1);
        Checks.due("sync", x.sync(), 0);
        // what waits and what is used share the room by blocks
        IntegerHouse y = new IntegerHouse();
        for (int k = 0; k < 99; k++) {
            if (k % 2 == 0) {
                y.push();
            } else {
                y.pop();
            }
            y.sync();
        }
        Checks.due("read", Checks.read(y, Checks.repeat(" ", 246)), IntegerHouse.ROOM);
        Checks.due("read", Checks.read(y, Checks.repeat(" ", 244)), 0);
        Checks.due("pop", y.pop(), 0);
        Checks.due("push", y.push(), IntegerHouse.ROOM);
        y.cut(0, 255);
        Checks.due("sync", y.sync(), IntegerHouse.LOST);
        mend(y, 100);
        Checks.due("block 100 is torn", y.start(), 99);
        Checks.due("count(3)", y.count(3), 1);
        y.pop();
        Checks.due("sync", y.sync(), 1);
        Checks.due("verify", y.verify(), -1);
        Checks.due("count(6)", y.count(6), 100);
        Checks.due("push", y.push(), IntegerHouse.ROOM);
    }

    private static IntegerHouse down() {
        IntegerHouse x = Checks.house("var x; claim a = x = 1;");
        x.push();
        x.sync();
        x.push();
        x.cut(0, 0);
        x.sync();
        return x;
    }

    private static void downRefusals() {
        IntegerHouse x = down();
        Checks.tape(x, "x");
        long[] answers = {x.sync(), x.cut(-9, 0), x.verify(), x.count(0), x.read(), x.on(-1, true), x.push(), x.pop(), x.find(),
            x.about(-1, 0), x.atom(-1, 0, 0), x.print(-1), x.holds(-1, 0, 0, 0, 0), x.decide(), x.follows(), x.extreme(true), x.many(),
            x.core(), x.alike(-1, 0), x.places(), x.own(-1), x.relaxed(), x.search(9, 0), x.prove(), x.bound(0), x.audit()};
        for (int k = 0; k < answers.length; k++) {
            Checks.due("refusal " + k + " while DOWN", answers[k], IntegerHouse.DOWN);
        }
        Checks.due("the tape stays", x.count(4), 1);
        Checks.due("fault", x.fault(), 0);
        Checks.due("start", x.start(), 2);
        Checks.due("the tape stays", x.count(4), 1);
        Checks.due("extreme", x.extreme(true), 1);
        Checks.due("number", x.number(), 1);
    }

    /** What calls told is no part of the house: it stays through DOWN and start(). */
    private static void toldStays() {
        IntegerHouse x = Checks.house("var x; claim a = x >= 5; claim b = 2 * x <= 15;");
        x.decide();
        Checks.tape(x, "3 * x");
        x.extreme(true);
        x.own(0);
        x.print(1);
        Checks.tape(x, "x");
        x.relaxed();
        Checks.tape(x, "x");
        x.search(0, 9);
        Checks.tape(x, "of b 1;");
        x.prove();
        Checks.tape(x, "zz");
        x.find();
        x.push();
        x.cut(0, 0);
        x.sync();
        for (int k = 0; k < 2; k++) {
            Checks.due("value", x.value(0), 6);
            Checks.due("height", x.height(), 3);
            Checks.due("number", x.number(), 21);
            Checks.due("takes", x.takes(0, 0), 0);
            Checks.due("printed", x.printed(0), '2');
            Checks.due("fraction", x.fraction(0), 15);
            Checks.due("best", x.best(0), 7);
            Checks.due("line", x.line(1, 4), 15);
            Checks.due("fault", x.fault(), 3);
            x.start();
        }
        Checks.due("count(0)", x.count(0), 0);
    }
}
