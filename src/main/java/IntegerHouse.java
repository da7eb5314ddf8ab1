import java.util.Arrays;

/** A house of claims about whole numbers, decided for all of them, that stands behind losses of power. */
public final class IntegerHouse {
    public static final int NONE = -1;
    public static final int UNKNOWN = -101, OUTSIDE = -102, STATE = -103, ROOM = -104, DOWN = -105, LOST = -106, HARD = -107;

    private static final int TAPE = 2000;
    private static final int FED = 20;
    private static final int FAULT_BASE = -1000;
    private static final int VARIABLES = 4;
    private static final int LETTERS = 16;
    private static final int CLAIMS = 24;
    private static final int TOKENS = 120;
    private static final long VALUE_MOST = 1000000000000L;

    /** Rows of tables that claims have: the claims', then the formula's and the term's that a call asks. */
    private static final int ASKED = CLAIMS;
    private static final int GOAL = CLAIMS + 1;
    private static final int SLOTS = CLAIMS + 2;

    /** Kinds of tokens; those from OPEN to SAME are in the order of Lexer.FIRST, from VAR on in that of Lexer.WORDS. */
    private static final int END = 0, NAME = 1, NUMBER = 2, BAD = 3;
    private static final int OPEN = 4, CLOSE = 5, LEFT = 6, RIGHT = 7, COMMA = 8, SEMI = 9, EQ = 10, PLUS = 11;
    private static final int MINUS = 12, TIMES = 13, LT = 14, GT = 15, LE = 16, GE = 17, NE = 18, ARROW = 19, SAME = 20;
    private static final int VAR = 21, CLAIM = 22, AND = 23, OR = 24, NOT = 25, TRUE = 26, FALSE = 27, ABS = 28, MIN = 29;
    private static final int MAX = 30, DIV = 31, MOD = 32, DIVIDES = 33, IF = 34;
    private static final int OF = 35, SUM = 36, CUT = 37, CASE = 38, ELSE = 39, DONE = 40;

    /** Kinds that no token of a tape has: known names, a step that looks at sizes, and what a faulted reader stands on. */
    private static final int VARIABLE = 41, NAMED = 42, CHECK = 43, STOP = 44;

    /** A stored token or step is its kind and, above these bits, its number. */
    private static final int KIND_BITS = 6, KIND_MASK = 63;

    /** Acts, by the numbers of their records. */
    private static final int ACT_READ = 1, ACT_ON = 2, ACT_PUSH = 3, ACT_POP = 4;

    private final byte[] tape = new byte[TAPE];
    private final Disk disk = new Disk();
    private final House house = new House();
    private final Lexer lexer = new Lexer();
    private final Maker maker = new Maker(house);
    private final Reader reader = new Reader(lexer, house, maker);
    private final Places places = new Places(house);
    private final Answers answers = new Answers(house, places);
    private final OwnForm ownForm = new OwnForm(places);
    private final Relaxer relaxer = new Relaxer();
    private final Searcher searcher = new Searcher(relaxer);
    private final Prover prover = new Prover(lexer, house);
    private int tapeLength;
    private int latestFault;
    private int acts;

    public IntegerHouse() {
    }

    // ---- the tape, the log, power

    public int feed(int a, int b, int c, int d, int e) throws IllegalStateException {
        if (tapeLength > TAPE - FED) {
            throw new IllegalStateException("the tape would have more than 2000 bytes");
        }
        feedOne(a);
        feedOne(b);
        feedOne(c);
        feedOne(d);
        feedOne(e);
        return tapeLength;
    }

    private void feedOne(int number) {
        for (int shift = 24; shift >= 0; shift -= 8) {
            if (tapeLength >= 0 && tapeLength < TAPE) {
                tape[tapeLength] = (byte) (number >> shift);
                tapeLength++;
            }
        }
    }

    public void end(int n) throws IllegalArgumentException {
        if (n < 0 || n > tapeLength) {
            throw new IllegalArgumentException("the tape has no such length");
        }
        tapeLength = n;
    }

    public int sync() {
        return disk.down ? DOWN : disk.writeAll();
    }

    public int cut(int n, int tear) {
        if (disk.down) {
            return DOWN;
        }
        if (n < NONE || n > 2000 || tear < 0 || tear > 255) {
            return OUTSIDE;
        }
        disk.setCut(n, tear);
        return 1;
    }

    public int start() {
        if (!disk.down) {
            return STATE;
        }
        house.clear();
        acts = 0;
        int used = disk.findUsed();
        int block = 1;
        for (int k = 0; k < Disk.BLOCKS && block <= used; k++) {
            block = disk.loadSync(block);
            int from = 0;
            int size = disk.recordSize(from);
            for (int r = 0; r < Disk.LOG && size > 0; r++) {
                acts += redo(from, size) ? 1 : 0;
                from += size;
                size = disk.recordSize(from);
            }
        }
        disk.comeUp(used);
        return acts;
    }

    /** The texts of records are read where they lie: the tape is no part of the house. */
    private boolean redo(int from, int size) {
        int act = disk.waitingByte(from);
        if (act == ACT_READ) {
            int claims = house.claims;
            boolean right = reader.readText(disk.waits, from + Disk.READ_HEAD, size - Disk.READ_HEAD);
            if (right) {
                house.turnOnFrom(claims);
            }
            return right;
        }
        if (act == ACT_ON) {
            int claim = disk.waitingInt(from + 1);
            boolean known = house.isClaim(claim);
            if (known) {
                house.turn(claim, disk.waitingInt(from + 5) == 1);
            }
            return known;
        }
        return act == ACT_PUSH ? house.addLayer() : house.leaveLayer();
    }

    public int verify() {
        return disk.down ? DOWN : disk.firstWrong();
    }

    public int octet(int block, int i) throws IndexOutOfBoundsException {
        if (!Disk.isByte(block, i)) {
            throw new IndexOutOfBoundsException("no such byte of a block");
        }
        return disk.byteOf(block, i);
    }

    public int poke(int block, int i, int mask) throws IndexOutOfBoundsException {
        if (!Disk.isByte(block, i)) {
            throw new IndexOutOfBoundsException("no such byte of a block");
        }
        return disk.flip(block, i, mask);
    }

    public int count(int what) {
        if (what == 4) {
            return tapeLength;
        }
        if (disk.down) {
            return DOWN;
        }
        switch (what) {
            case 0: return house.variables;
            case 1: return house.claims;
            case 2: return Integer.bitCount(house.on);
            case 3: return house.layers;
            case 5: return disk.waiting;
            case 6: return disk.used;
            case 7: return acts;
            default: return NONE;
        }
    }

    // ---- texts and layers

    public int read() {
        if (disk.down) {
            return DOWN;
        }
        int length = useTape();
        int variables = house.variables;
        int claims = house.claims;
        int pool = house.poolSize;
        if (!reader.readText(tape, 0, length)) {
            return faulted();
        }
        if (!disk.hasRoom(Disk.READ_HEAD + length)) {
            house.cutBack(variables, claims, pool);
            return ROOM;
        }
        house.turnOnFrom(claims);
        disk.recordRead(tape, length);
        acts++;
        return house.claims - claims;
    }

    /** What is read is used up; the bytes themselves stay till the next feed, so that they can be read. */
    private int useTape() {
        int length = tapeLength;
        tapeLength = 0;
        return length;
    }

    private int faulted() {
        latestFault = reader.faultKind;
        return FAULT_BASE - reader.faultPlace;
    }

    public int fault() {
        return latestFault;
    }

    public int on(int claim, boolean is) {
        if (disk.down) {
            return DOWN;
        }
        if (!house.isClaim(claim)) {
            return UNKNOWN;
        }
        if (!disk.hasRoom(Disk.ON_SIZE)) {
            return ROOM;
        }
        boolean changed = house.turn(claim, is);
        disk.recordOn(claim, is);
        acts++;
        return changed ? 1 : 0;
    }

    public int push() {
        if (disk.down) {
            return DOWN;
        }
        if (house.layers >= House.LAYERS || !disk.hasRoom(1)) {
            return ROOM;
        }
        house.addLayer();
        disk.recordAct(ACT_PUSH);
        acts++;
        return house.layers;
    }

    public int pop() {
        if (disk.down) {
            return DOWN;
        }
        if (house.layers == 0) {
            return STATE;
        }
        if (!disk.hasRoom(1)) {
            return ROOM;
        }
        house.leaveLayer();
        disk.recordAct(ACT_POP);
        acts++;
        return house.layers;
    }

    public int find() {
        if (disk.down) {
            return DOWN;
        }
        int claim = reader.readName(tape, useTape());
        return claim == NONE ? faulted() : claim;
    }

    public int about(int claim, int what) {
        if (disk.down) {
            return DOWN;
        }
        if (!house.isClaim(claim)) {
            return UNKNOWN;
        }
        switch (what) {
            case 0: return house.on >>> claim & 1;
            case 1: return house.fact(claim, House.ATOMS_OF);
            case 2: return house.fact(claim, House.CASES_OF);
            case 3: return house.fact(claim, House.PLAIN);
            case 4: return house.fact(claim, House.LAYER_OF);
            case 5: return house.fact(claim, House.TOKENS_OF);
            default: return NONE;
        }
    }

    public int atom(int claim, int k, int what) {
        if (disk.down) {
            return DOWN;
        }
        if (!house.isClaim(claim)) {
            return UNKNOWN;
        }
        if (k < 0 || k >= house.fact(claim, House.ATOMS_OF) || what < 0 || what > 5) {
            return OUTSIDE;
        }
        return house.pooled(house.atomOf(claim, k), what);
    }

    public int print(int claim) {
        if (disk.down) {
            return DOWN;
        }
        if (!house.isClaim(claim)) {
            return UNKNOWN;
        }
        return house.show(claim, lexer);
    }

    public int printed(int i) {
        return house.shownByte(i);
    }

    public int holds(int claim, long a, long b, long c, long d) {
        if (disk.down) {
            return DOWN;
        }
        if (!house.isClaim(claim)) {
            return UNKNOWN;
        }
        if (isFar(0, a) || isFar(1, b) || isFar(2, c) || isFar(3, d)) {
            return OUTSIDE;
        }
        return answers.isSoFor(claim, a, b, c, d) ? 1 : 0;
    }

    private boolean isFar(int variable, long value) {
        return variable < house.variables && (value > VALUE_MOST || value < -VALUE_MOST);
    }

    // ---- deciding

    public int decide() {
        if (disk.down) {
            return DOWN;
        }
        if (!places.judge(house.on)) {
            return HARD;
        }
        return answers.tellLeast(house.on, 0) ? 1 : 0;
    }

    public int follows() {
        if (disk.down) {
            return DOWN;
        }
        int pool = house.poolSize;
        int answer;
        if (!reader.readFormula(tape, useTape())) {
            answer = faulted();
        } else if (!places.judge(house.on | 1 << ASKED)) {
            answer = HARD;
        } else {
            answer = answers.tellLeast(house.on, 1 << ASKED) ? 0 : 1;
        }
        house.poolSize = pool;
        return answer;
    }

    public long value(int variable) throws IndexOutOfBoundsException {
        if (!answers.isTold(variable)) {
            throw new IndexOutOfBoundsException("no such value was told");
        }
        return answers.toldValue(variable);
    }

    public int height() {
        return answers.toldHeight;
    }

    public int extreme(boolean greatest) {
        if (disk.down) {
            return DOWN;
        }
        int pool = house.poolSize;
        int answer;
        if (!reader.readExtreme(tape, useTape())) {
            answer = faulted();
        } else {
            int asked = reader.hasFormula ? house.on | 1 << ASKED : house.on;
            answer = places.judge(asked) ? answers.tellExtreme(asked, maker.goal, greatest) : HARD;
        }
        house.poolSize = pool;
        return answer;
    }

    public long number() {
        return answers.toldNumber;
    }

    public int many() {
        if (disk.down) {
            return DOWN;
        }
        return places.judge(house.on) ? answers.howMany(house.on) : HARD;
    }

    public int core() {
        if (disk.down) {
            return DOWN;
        }
        return places.judge(house.on) ? answers.tellCore(house.on) : HARD;
    }

    public int inCore(int k) {
        return answers.toldInCore(k);
    }

    public int alike(int i, int j) {
        if (disk.down) {
            return DOWN;
        }
        if (!house.isClaim(i) || !house.isClaim(j)) {
            return UNKNOWN;
        }
        if (!places.judge(1 << i | 1 << j)) {
            return HARD;
        }
        return answers.areAlike(i, j) ? 1 : 0;
    }

    public int places() {
        if (disk.down) {
            return DOWN;
        }
        return places.explore(house.on) ? places.size : HARD;
    }

    public int own(int claim) {
        if (disk.down) {
            return DOWN;
        }
        if (!house.isClaim(claim)) {
            return UNKNOWN;
        }
        return places.judge(1 << claim) ? ownForm.tell(claim) : HARD;
    }

    public int half(int k, int letter) throws IndexOutOfBoundsException {
        if (!ownForm.isTold(k, letter)) {
            throw new IndexOutOfBoundsException("no such state or letter was told");
        }
        return ownForm.toldHalf(k, letter);
    }

    public int takes(int k, int letter) throws IndexOutOfBoundsException {
        if (!ownForm.isTold(k, letter)) {
            throw new IndexOutOfBoundsException("no such state or letter was told");
        }
        return ownForm.toldTakes(k, letter);
    }

    // ---- relaxed, searched, proved

    public int relaxed() {
        if (disk.down) {
            return DOWN;
        }
        int length = useTape();
        if (!house.allPlain()) {
            return STATE;
        }
        if (!reader.readTerm(tape, length)) {
            return faulted();
        }
        return relaxer.load(house, maker.goal) ? relaxer.tell() : HARD;
    }

    public long fraction(int what) throws IndexOutOfBoundsException {
        if (!relaxer.isTold(what)) {
            throw new IndexOutOfBoundsException("no such number was told");
        }
        return relaxer.toldFraction(what);
    }

    public int search(int way, int most) {
        if (disk.down) {
            return DOWN;
        }
        int length = useTape();
        if (way < 0 || way > 1 || most < 1 || most > Searcher.NODES) {
            return OUTSIDE;
        }
        if (!house.allPlain()) {
            return STATE;
        }
        if (!reader.readTerm(tape, length)) {
            return faulted();
        }
        return relaxer.load(house, maker.goal) ? searcher.run(way, most) : HARD;
    }

    public long best(int what) throws IndexOutOfBoundsException {
        if (!searcher.isTold(what)) {
            throw new IndexOutOfBoundsException("no such number was told");
        }
        return searcher.toldBest(what);
    }

    public int prove() {
        if (disk.down) {
            return DOWN;
        }
        int answer = prover.check(tape, useTape());
        if (answer == NONE) {
            latestFault = prover.faultKind;
            return FAULT_BASE - prover.faultPlace;
        }
        return answer;
    }

    public long line(int i, int v) throws IndexOutOfBoundsException {
        if (!prover.isLine(i) || v < 0 || v > VARIABLES) {
            throw new IndexOutOfBoundsException("no such line or number of it");
        }
        return prover.lineNumber(i, v);
    }

    public int bound(int i) {
        return disk.down ? DOWN : answers.boundDigit(i);
    }

    public int audit() {
        return disk.down ? DOWN : 0;
    }

    /** The disk: its blocks, those that are used, the records that wait, and when power goes. */
    private static final class Disk {
        static final int BLOCKS = 100, LOG = 24800, READ_HEAD = 3, ON_SIZE = 9;
        private static final int BLOCK = 256, LOAD = 248, HEAD = 4, SUMMED = 252;
        private static final int TIMES_SUM = 0x9E3779B1;

        private final byte[] blocks = new byte[BLOCKS * BLOCK];
        private final boolean[] torn = new boolean[BLOCKS + 1];
        private final byte[] image = new byte[BLOCK];
        /** The records that wait; start() puts a sync's records here, for none wait then. */
        private final byte[] waits = new byte[LOG];
        private int waiting;
        private int used;
        private int cutAt = NONE;
        private int tear;
        private boolean down;

        static boolean isByte(int block, int i) {
            return block >= 1 && block <= BLOCKS && i >= 0 && i < BLOCK;
        }

        int byteOf(int block, int i) {
            return isByte(block, i) ? blocks[(block - 1) * BLOCK + i] & 255 : 0;
        }

        int flip(int block, int i, int mask) {
            if (isByte(block, i)) {
                blocks[(block - 1) * BLOCK + i] ^= (byte) mask;
            }
            return byteOf(block, i);
        }

        void setCut(int n, int bytes) {
            cutAt = n;
            tear = bytes;
        }

        boolean hasRoom(int size) {
            return (waiting + size + LOAD - 1) / LOAD <= BLOCKS - used;
        }

        int waitingByte(int i) {
            return i >= 0 && i < LOG ? waits[i] & 255 : 0;
        }

        int waitingInt(int i) {
            return waitingByte(i) << 24 | waitingByte(i + 1) << 16 | waitingByte(i + 2) << 8 | waitingByte(i + 3);
        }

        private void await(int octet) {
            if (waiting >= 0 && waiting < LOG) {
                waits[waiting] = (byte) octet;
                waiting++;
            }
        }

        private void awaitInt(int number) {
            for (int shift = 24; shift >= 0; shift -= 8) {
                await(number >> shift);
            }
        }

        void recordRead(byte[] text, int length) {
            await(ACT_READ);
            await(length >> 8);
            await(length);
            for (int i = 0; i < length && i < text.length; i++) {
                await(text[i]);
            }
        }

        void recordOn(int claim, boolean is) {
            await(ACT_ON);
            awaitInt(claim);
            awaitInt(is ? 1 : 0);
        }

        void recordAct(int act) {
            await(act);
        }

        int writeAll() {
            int wanted = (waiting + LOAD - 1) / LOAD;
            for (int k = 0; k < wanted; k++) {
                compose(used + 1 + k, k * LOAD);
                if (!write(used + 1 + k)) {
                    down = true;
                    return LOST;
                }
            }
            used += wanted;
            waiting = 0;
            return wanted;
        }

        private void compose(int block, int from) {
            int size = Math.min(LOAD, waiting - from);
            image[0] = (byte) (block >> 8);
            image[1] = (byte) block;
            image[2] = (byte) (from + size >= waiting ? 1 : 0);
            image[3] = (byte) size;
            for (int i = 0; i < LOAD; i++) {
                image[HEAD + i] = (byte) (i < size ? waitingByte(from + i) : 0);
            }
            int sum = 0;
            for (int i = 0; i < SUMMED; i++) {
                sum = summed(sum, image[i] & 255);
            }
            for (int i = 0; i < 4; i++) {
                image[SUMMED + i] = (byte) (sum >> 24 - 8 * i);
            }
        }

        private static int summed(int sum, int octet) {
            int mixed = sum ^ octet;
            return (mixed << 5 | mixed >>> 27) * TIMES_SUM;
        }

        /** Answers whether power stayed. */
        private boolean write(int block) {
            boolean goes = cutAt == 0;
            if (cutAt >= 0) {
                cutAt--;
            }
            int size = goes ? tear : BLOCK;
            for (int i = 0; i < size && isByte(block, i); i++) {
                blocks[(block - 1) * BLOCK + i] = image[i];
            }
            if (block >= 1 && block <= BLOCKS) {
                torn[block] = goes;
            }
            return !goes;
        }

        private boolean isRight(int block) {
            if (block < 1 || block > BLOCKS || torn[block]) {
                return false;
            }
            int last = byteOf(block, 2);
            int size = byteOf(block, 3);
            boolean sized = last == 0 ? size == LOAD : last == 1 && size >= 1 && size <= LOAD;
            if (!sized || (byteOf(block, 0) << 8 | byteOf(block, 1)) != block) {
                return false;
            }
            int sum = 0;
            for (int i = 0; i < SUMMED; i++) {
                sum = summed(sum, byteOf(block, i));
            }
            int told = 0;
            for (int i = SUMMED; i < BLOCK; i++) {
                told = told << 8 | byteOf(block, i);
            }
            return told == sum;
        }

        int firstWrong() {
            for (int block = 1; block <= used; block++) {
                if (!isRight(block)) {
                    return block;
                }
            }
            return NONE;
        }

        int findUsed() {
            int last = 0;
            for (int block = 1; block <= BLOCKS && isRight(block); block++) {
                if (byteOf(block, 2) == 1) {
                    last = block;
                }
            }
            return last;
        }

        /** Answers the block behind the sync that begins at a block. */
        int loadSync(int first) {
            waiting = 0;
            int block = first;
            boolean more = true;
            for (int k = 0; k < BLOCKS && more; k++) {
                int size = byteOf(block, 3);
                for (int i = 0; i < size; i++) {
                    await(byteOf(block, HEAD + i));
                }
                more = byteOf(block, 2) == 0;
                block++;
            }
            return block;
        }

        /** The bytes of the record that begins there; 0 if it is none. */
        int recordSize(int from) {
            int act = waitingByte(from);
            int size = 0;
            if (act == ACT_PUSH || act == ACT_POP) {
                size = 1;
            } else if (act == ACT_ON) {
                int is = waitingInt(from + 5);
                size = is == 0 || is == 1 ? ON_SIZE : 0;
            } else if (act == ACT_READ && from + READ_HEAD <= waiting) {
                int length = waitingByte(from + 1) << 8 | waitingByte(from + 2);
                size = length <= TAPE ? READ_HEAD + length : 0;
            }
            return from + size <= waiting ? size : 0;
        }

        void comeUp(int blocksUsed) {
            used = blocksUsed;
            waiting = 0;
            cutAt = NONE;
            down = false;
        }
    }

    /** Tokens: how the bytes of a tape are cut into them, and how one is written. */
    private static final class Lexer {
        private static final int WORD = 8, DIGITS = 6, WIDTH_SHIFT = 20, WIDTH_MASK = 7;
        /** Eight bytes for each word. */
        private static final String WORDS = "var     claim   and     or      not     true    false   abs     min     max     div     mod     divides if      of      sum     cut     case    else    done    ";
        private static final int GENERAL_WORDS = 14, ALL_WORDS = 20;
        private static final String FIRST = "()[],;=+-*<><>!-=";
        private static final String SECOND = "            ===>=";
        private static final int SINGLE_SIGNS = 12, ALL_SIGNS = 17;

        private final long[] words = new long[ALL_WORDS];
        private final int[] kinds = new int[TAPE + 1];
        private final int[] spots = new int[TAPE + 1];
        private final int[] numbers = new int[TAPE + 1];
        private final long[] names = new long[TAPE + 1];
        private int size;
        private byte[] source = new byte[0];
        private int begin;
        private int stop;

        Lexer() {
            for (int k = 0; k < ALL_WORDS; k++) {
                words[k] = packed(WORDS, k * WORD);
            }
        }

        private static long packed(String text, int from) {
            long name = 0;
            for (int i = from; i < from + WORD && i < text.length() && text.charAt(i) != ' '; i++) {
                name = name << 8 | text.charAt(i);
            }
            return name;
        }

        int kindAt(int i) {
            return i >= 0 && i < size ? kinds[i] : END;
        }

        int placeAt(int i) {
            return i >= 0 && i < size ? spots[i] : stop - begin;
        }

        int numberAt(int i) {
            return i >= 0 && i < size ? numbers[i] & (1 << WIDTH_SHIFT) - 1 : 0;
        }

        /** The number together with how many digits it was written with. */
        int writtenAt(int i) {
            return i >= 0 && i < size ? numbers[i] : 0;
        }

        long nameAt(int i) {
            return i >= 0 && i < size ? names[i] : 0;
        }

        /** Nothing behind a BAD token is looked at: no text is read beyond it. */
        void scan(byte[] text, int from, int length, boolean proof) {
            source = text;
            begin = from;
            stop = from + length;
            size = 0;
            int at = behindBlanks(from);
            int known = proof ? ALL_WORDS : GENERAL_WORDS;
            for (int k = 0; k < TAPE && at < stop; k++) {
                spots[k] = at - begin;
                int octet = byteAt(at);
                if (isLetter(octet)) {
                    at = word(k, at, known);
                } else if (isDigit(octet)) {
                    at = digits(k, at);
                } else {
                    at = sign(k, at);
                }
                size = k + 1;
                at = kinds[k] == BAD ? stop : behindBlanks(at);
            }
            kinds[size] = END;
            spots[size] = length;
        }

        private int byteAt(int i) {
            return i >= begin && i < stop && i >= 0 && i < source.length ? source[i] & 255 : 0;
        }

        private int behindBlanks(int from) {
            int at = from;
            while (at < stop && (byteAt(at) == ' ' || byteAt(at) == '\n')) {
                at++;
            }
            return at;
        }

        private static boolean isLetter(int octet) {
            return octet >= 'a' && octet <= 'z' || octet >= 'A' && octet <= 'Z';
        }

        private static boolean isDigit(int octet) {
            return octet >= '0' && octet <= '9';
        }

        private int word(int k, int from, int known) {
            long name = 0;
            int at = from;
            while (at < stop && (isLetter(byteAt(at)) || isDigit(byteAt(at)))) {
                name = name << 8 | byteAt(at);
                at++;
            }
            int kind = at - from > WORD ? BAD : NAME;
            for (int w = 0; w < known && w < words.length && kind == NAME; w++) {
                if (words[w] == name) {
                    kind = VAR + w;
                }
            }
            if (k >= 0 && k <= TAPE) {
                kinds[k] = kind;
                names[k] = name;
            }
            return at;
        }

        private int digits(int k, int from) {
            int number = 0;
            int at = from;
            while (at < stop && isDigit(byteAt(at))) {
                number = at - from < DIGITS ? number * 10 + byteAt(at) - '0' : number;
                at++;
            }
            boolean right = at - from <= DIGITS && !isLetter(byteAt(at));
            if (k >= 0 && k <= TAPE) {
                kinds[k] = right ? NUMBER : BAD;
                numbers[k] = number | (at - from & WIDTH_MASK) << WIDTH_SHIFT;
            }
            return at;
        }

        /** Signs of two bytes are looked for first, for a sign is read as long as can be. */
        private int sign(int k, int from) {
            int kind = BAD;
            for (int s = ALL_SIGNS - 1; s >= 0 && kind == BAD; s--) {
                boolean second = s < SINGLE_SIGNS || byteAt(from + 1) == SECOND.charAt(s);
                if (second && byteAt(from) == FIRST.charAt(s)) {
                    kind = OPEN + s;
                }
            }
            if (k >= 0 && k <= TAPE) {
                kinds[k] = kind;
            }
            return from + (kind >= LE ? 2 : 1);
        }

        /** The bytes of a sign or a word, the first one highest. */
        long spelled(int kind) {
            int sign = kind - OPEN;
            if (sign >= 0 && sign < SINGLE_SIGNS) {
                return FIRST.charAt(sign);
            }
            if (sign >= SINGLE_SIGNS && sign < ALL_SIGNS) {
                return (long) FIRST.charAt(sign) << 8 | SECOND.charAt(sign);
            }
            int word = kind - VAR;
            return word >= 0 && word < words.length ? words[word] : 0;
        }

        /** The digits of a number as it was written. */
        static long spelledNumber(int written) {
            long text = 0;
            int number = written & (1 << WIDTH_SHIFT) - 1;
            int width = written >> WIDTH_SHIFT & WIDTH_MASK;
            for (int i = 0; i < width; i++) {
                text |= (long) ('0' + number % 10) << 8 * i;
                number /= 10;
            }
            return text;
        }
    }

    /** The house: what all acts make, and nothing else; with the two rows of what a call asks. */
    private static final class House {
        static final int LAYERS = 8, ATOMS_MOST = 24, POOL = 640, STEPS = 512, CODE = 1024;
        /** Places in a claim's row of facts. */
        static final int TOKENS_OF = 0, STEPS_OF = 1, CODE_OF = 2, CASES_OF = 3, ATOMS_OF = 4, PLAIN = 5;
        static final int FALSEHOOD = 6, NAMES_OF = 7, LAYER_OF = 8, PLACE_OF = 9;
        /** Places in an atom's row: the factors of the variables are 0 .. 3. */
        static final int NUMBER_OF = 4, MODULUS = 5;
        private static final int FACTS = 10, ATOM = 6, MARKS = 4;
        private static final int SHOWN = 1200;

        private final long[] variableNames = new long[VARIABLES];
        private final long[] claimNames = new long[CLAIMS];
        private final int[] tokens = new int[SLOTS * TOKENS];
        /** A formula's steps: its parts in the order in which they are done, each behind what it is done to. */
        private final int[] steps = new int[SLOTS * STEPS];
        /** A formula's code: atoms by their numbers in the pool, and, below 0, what joins them. */
        private final int[] code = new int[SLOTS * CODE];
        private final int[] facts = new int[SLOTS * FACTS];
        private final int[] atoms = new int[SLOTS * ATOMS_MOST];
        /** All atoms, each once, so that like ones are those of one number. */
        private final int[] pool = new int[POOL * ATOM];
        private final int[] marks = new int[LAYERS * MARKS];
        private final byte[] shown = new byte[SHOWN];
        private int variables;
        private int claims;
        private int poolSize;
        private int on;
        private int layers;
        private int shownSize;

        void clear() {
            cutBack(0, 0, 0);
            layers = 0;
        }

        void cutBack(int variablesLeft, int claimsLeft, int poolLeft) {
            variables = variablesLeft;
            claims = claimsLeft;
            poolSize = poolLeft;
            on &= (1 << claimsLeft) - 1;
        }

        boolean isClaim(int claim) {
            return claim >= 0 && claim < claims;
        }

        void turnOnFrom(int claim) {
            on |= (1 << claims) - (1 << claim);
        }

        boolean turn(int claim, boolean is) {
            int before = on;
            on = is ? on | 1 << claim : on & ~(1 << claim);
            return on != before;
        }

        boolean addLayer() {
            if (layers < 0 || layers >= LAYERS) {
                return false;
            }
            int mark = layers * MARKS;
            marks[mark] = variables;
            marks[mark + 1] = claims;
            marks[mark + 2] = poolSize;
            marks[mark + 3] = on;
            layers++;
            return true;
        }

        boolean leaveLayer() {
            if (layers <= 0 || layers > LAYERS) {
                return false;
            }
            layers--;
            int mark = layers * MARKS;
            cutBack(marks[mark], marks[mark + 1], marks[mark + 2]);
            on = marks[mark + 3];
            return true;
        }

        int variableOf(long name) {
            for (int v = 0; v < variables && v < VARIABLES; v++) {
                if (variableNames[v] == name) {
                    return v;
                }
            }
            return NONE;
        }

        int claimOf(long name) {
            for (int c = 0; c < claims && c < CLAIMS; c++) {
                if (claimNames[c] == name) {
                    return c;
                }
            }
            return NONE;
        }

        boolean addVariable(long name) {
            if (variables < 0 || variables >= VARIABLES) {
                return false;
            }
            variableNames[variables] = name;
            variables++;
            return true;
        }

        void addClaim(long name) {
            if (claims >= 0 && claims < CLAIMS) {
                setFact(claims, LAYER_OF, layers);
                claimNames[claims] = name;
                claims++;
            }
        }

        int fact(int slot, int what) {
            return slot >= 0 && slot < SLOTS && what >= 0 && what < FACTS ? facts[slot * FACTS + what] : 0;
        }

        void setFact(int slot, int what, int number) {
            if (slot >= 0 && slot < SLOTS && what >= 0 && what < FACTS) {
                facts[slot * FACTS + what] = number;
            }
        }

        void setToken(int slot, int i, int token) {
            if (slot >= 0 && slot < SLOTS && i >= 0 && i < TOKENS) {
                tokens[slot * TOKENS + i] = token;
            }
        }

        int token(int slot, int i) {
            boolean there = slot >= 0 && slot < SLOTS && i >= 0 && i < TOKENS && i < fact(slot, TOKENS_OF);
            return there ? tokens[slot * TOKENS + i] : END;
        }

        void setStep(int slot, int i, int step) {
            if (slot >= 0 && slot < SLOTS && i >= 0 && i < STEPS) {
                steps[slot * STEPS + i] = step;
            }
        }

        int step(int slot, int i) {
            return slot >= 0 && slot < SLOTS && i >= 0 && i < STEPS ? steps[slot * STEPS + i] : 0;
        }

        int atomOf(int slot, int k) {
            return slot >= 0 && slot < SLOTS && k >= 0 && k < ATOMS_MOST ? atoms[slot * ATOMS_MOST + k] : 0;
        }

        int pooled(int atom, int what) {
            return atom >= 0 && atom < POOL && what >= 0 && what < ATOM ? pool[atom * ATOM + what] : 0;
        }

        /** The number of an atom in the pool, where it comes if it was not there. */
        int poolNumber(int[] row) {
            int found = 0;
            boolean like = false;
            for (int atom = 0; atom < poolSize && atom < POOL && !like; atom++) {
                found = atom;
                like = true;
                for (int what = 0; what < ATOM && what < row.length && like; what++) {
                    like = pool[atom * ATOM + what] == row[what];
                }
            }
            if (!like && poolSize >= 0 && poolSize < POOL) {
                found = poolSize;
                for (int what = 0; what < ATOM && what < row.length; what++) {
                    pool[found * ATOM + what] = row[what];
                }
                poolSize++;
            }
            return found;
        }

        /** Answers whether there was place for it among the atoms of a slot, where like ones are one. */
        boolean addAtom(int slot, int atom) {
            if (slot < 0 || slot >= SLOTS) {
                return false;
            }
            int size = facts[slot * FACTS + ATOMS_OF];
            for (int k = 0; k < size && k < ATOMS_MOST; k++) {
                if (atoms[slot * ATOMS_MOST + k] == atom) {
                    return true;
                }
            }
            if (size < 0 || size >= ATOMS_MOST) {
                return false;
            }
            atoms[slot * ATOMS_MOST + size] = atom;
            facts[slot * FACTS + ATOMS_OF] = size + 1;
            return true;
        }

        boolean allPlain() {
            for (int c = 0; c < claims; c++) {
                if ((on >>> c & 1) == 1 && fact(c, PLAIN) == 0) {
                    return false;
                }
            }
            return true;
        }

        int show(int claim, Lexer lexer) {
            shownSize = 0;
            int size = fact(claim, TOKENS_OF);
            for (int i = 0; i < size; i++) {
                int kind = token(claim, i) & KIND_MASK;
                int partner = kind == OPEN || kind == CLOSE ? partnerOf(claim, i, kind) : NONE;
                if (partner == NONE || isNeeded(claim, Math.min(i, partner), Math.max(i, partner))) {
                    showToken(token(claim, i), lexer);
                }
            }
            return shownSize;
        }

        /** Where the ( of a ) is, or the ) of a (. */
        private int partnerOf(int claim, int from, int kind) {
            int way = kind == OPEN ? 1 : -1;
            int depth = 0;
            for (int i = from; i >= 0 && i < fact(claim, TOKENS_OF); i += way) {
                int here = token(claim, i) & KIND_MASK;
                depth += here == OPEN ? 1 : here == CLOSE ? -1 : 0;
                if (depth == 0) {
                    return i;
                }
            }
            return NONE;
        }

        /** What stands beside ( ) tells how closely what is within has to be joined to be read alike without them. */
        private boolean isNeeded(int claim, int open, int close) {
            int before = open > 0 ? token(claim, open - 1) & KIND_MASK : END;
            int behind = token(claim, close + 1) & KIND_MASK;
            int asked = Math.max(before == NOT ? 3 : tightness(before), tightness(behind));
            return within(claim, open, close) < asked;
        }

        private static int tightness(int kind) {
            return kind == AND ? 2 : kind == OR || kind == ARROW || kind == SAME ? 1 : 0;
        }

        /** 0 with an arrow or ==, 1 with or, 2 with and, 3 for one alone; ( ) that hold all of it are looked into. */
        private int within(int claim, int open, int close) {
            int from = open + 1;
            int to = close;
            for (int k = 0; k < TOKENS && isAllWithin(claim, from, to); k++) {
                from++;
                to--;
            }
            int depth = 0;
            int found = 3;
            for (int i = from; i < to; i++) {
                int kind = token(claim, i) & KIND_MASK;
                depth += kind == OPEN ? 1 : kind == CLOSE ? -1 : 0;
                if (depth == 0) {
                    found = Math.min(found, kind == ARROW || kind == SAME ? 0 : kind == OR ? 1 : kind == AND ? 2 : 3);
                }
            }
            return found;
        }

        private boolean isAllWithin(int claim, int from, int to) {
            return (token(claim, from) & KIND_MASK) == OPEN && partnerOf(claim, from, OPEN) == to - 1;
        }

        private void showToken(int token, Lexer lexer) {
            int kind = token & KIND_MASK;
            int number = token >> KIND_BITS;
            long text = lexer.spelled(kind);
            if (kind == NUMBER) {
                text = Lexer.spelledNumber(number);
            } else if (kind == VARIABLE && number >= 0 && number < VARIABLES) {
                text = variableNames[number];
            } else if (kind == NAMED && number >= 0 && number < CLAIMS) {
                text = claimNames[number];
            }
            if (shownSize > 0) {
                showByte(' ');
            }
            for (int shift = 56; shift >= 0; shift -= 8) {
                int octet = (int) (text >>> shift) & 255;
                if (octet != 0) {
                    showByte(octet);
                }
            }
        }

        private void showByte(int octet) {
            if (shownSize >= 0 && shownSize < SHOWN) {
                shown[shownSize] = (byte) octet;
                shownSize++;
            }
        }

        int shownByte(int i) {
            return i >= 0 && i < shownSize && i < SHOWN ? shown[i] & 255 : NONE;
        }
    }

    /** Reads what a tape says by the grammar; its tokens and steps go into the house, its first fault is kept. */
    private static final class Reader {
        private static final int OPEN_MOST = 12, DIVISOR_LEAST = 2, DIVISOR_MOST = 12;
        private static final int EXTREME_SIZES = 12, RELAXED_FACTOR = 20, RELAXED_NUMBER = 99999;

        private final Lexer lexer;
        private final House house;
        private final Maker maker;
        private int faultKind;
        private int faultPlace;
        private boolean hasFormula;
        /** The token that comes: which it is, its kind, its place. */
        private int at;
        private int kind;
        private int place;
        private long claimName;
        private int claimPlace;
        /** What the formula or term that is read has so far. */
        private int slot;
        private int tokens;
        private int steps;
        private int open;

        Reader(Lexer lexer, House house, Maker maker) {
            this.lexer = lexer;
            this.house = house;
            this.maker = maker;
        }

        /** Answers whether it is right; then its variables and claims are in the house. */
        boolean readText(byte[] text, int from, int length) {
            begin(text, from, length);
            int variables = house.variables;
            int claims = house.claims;
            int pool = house.poolSize;
            for (int k = 0; k < TAPE && (kind == VAR || kind == CLAIM); k++) {
                if (kind == VAR) {
                    readVariables();
                } else if (beginClaim()) {
                    readInto(house.claims);
                    endClaim();
                }
                expect(SEMI);
            }
            expectEnd();
            for (int c = claims; c < house.claims && faultKind == 0; c++) {
                failIf(maker.make(c), c);
            }
            if (faultKind != 0) {
                house.cutBack(variables, claims, pool);
            }
            return faultKind == 0;
        }

        /** The claim that the tape names, or NONE behind a fault. */
        int readName(byte[] text, int length) {
            begin(text, 0, length);
            int claim = house.claimOf(lexer.nameAt(at));
            if (kind != NAME || house.variableOf(lexer.nameAt(at)) != NONE) {
                fail(2);
            } else if (claim == NONE) {
                fail(3);
            } else {
                next();
            }
            expectEnd();
            return faultKind == 0 ? claim : NONE;
        }

        boolean readFormula(byte[] text, int length) {
            begin(text, 0, length);
            readInto(ASKED);
            expectEnd();
            if (faultKind == 0) {
                failIf(maker.make(ASKED), ASKED);
            }
            return faultKind == 0;
        }

        boolean readExtreme(byte[] text, int length) {
            begin(text, 0, length);
            readInto(GOAL);
            hasFormula = kind == IF;
            if (hasFormula) {
                next();
                readInto(ASKED);
            }
            expectEnd();
            if (faultKind == 0) {
                failIf(maker.makeGoal() && maker.goalSizes() <= EXTREME_SIZES ? 0 : 4, GOAL);
            }
            if (faultKind == 0 && hasFormula) {
                failIf(maker.make(ASKED), ASKED);
            }
            return faultKind == 0;
        }

        boolean readTerm(byte[] text, int length) {
            begin(text, 0, length);
            readInto(GOAL);
            expectEnd();
            if (faultKind == 0) {
                failIf(maker.makeGoal() && maker.isGoalWithin(RELAXED_FACTOR, RELAXED_NUMBER) ? 0 : 4, GOAL);
            }
            return faultKind == 0;
        }

        private void begin(byte[] text, int from, int length) {
            lexer.scan(text, from, length, false);
            faultKind = 0;
            faultPlace = 0;
            hasFormula = false;
            at = -1;
            next();
        }

        private void next() {
            at = at < lexer.size ? at + 1 : at;
            if (at >= 0 && at <= TAPE) {
                kind = lexer.kinds[at];
                place = lexer.spots[at];
            }
        }

        /** Nothing can follow STOP: what reads goes home, and finds no second fault. */
        private void fail(int faulted) {
            if (faultKind == 0) {
                faultKind = kind == BAD ? 1 : faulted;
                faultPlace = place;
            }
            kind = STOP;
        }

        private void failIf(int verdict, int made) {
            if (verdict != 0) {
                faultKind = verdict;
                faultPlace = house.fact(made, House.PLACE_OF);
            }
        }

        private void expect(int wanted) {
            if (kind == wanted) {
                next();
            } else {
                fail(2);
            }
        }

        private void expectEnd() {
            if (kind != END) {
                fail(2);
            }
        }

        private void readVariables() {
            next();
            readVariable();
            for (int k = 0; k < TAPE && kind == NAME; k++) {
                readVariable();
            }
        }

        private void readVariable() {
            long name = lexer.nameAt(at);
            if (kind != NAME) {
                fail(2);
            } else if (house.variableOf(name) != NONE || house.claimOf(name) != NONE) {
                fail(3);
            } else if (house.addVariable(name)) {
                next();
            } else {
                fail(5);
            }
        }

        private boolean beginClaim() {
            next();
            claimName = lexer.nameAt(at);
            claimPlace = place;
            if (kind != NAME) {
                fail(2);
            } else if (house.variableOf(claimName) != NONE || house.claimOf(claimName) != NONE) {
                fail(3);
            } else if (house.claims >= CLAIMS) {
                fail(5);
            } else {
                next();
                expect(EQ);
            }
            return faultKind == 0;
        }

        private void endClaim() {
            if (faultKind == 0) {
                house.setFact(house.claims, House.PLACE_OF, claimPlace);
                house.addClaim(claimName);
            }
        }

        /** Reads a formula, or for GOAL a term, into the rows of a slot. */
        private void readInto(int into) {
            slot = into;
            tokens = 0;
            steps = 0;
            open = 0;
            house.setFact(into, House.PLACE_OF, place);
            if (into == GOAL) {
                term();
            } else {
                formula();
            }
            house.setFact(into, House.TOKENS_OF, tokens);
            house.setFact(into, House.STEPS_OF, steps);
        }

        private void step(int op) {
            house.setStep(slot, steps, op);
            steps++;
        }

        /** Takes the token that comes if it is of the wanted kind; a 'not' is closed by the one that it is of. */
        private void accept(int wanted, int token) {
            boolean opens = wanted == NOT || wanted == OPEN || wanted == LEFT;
            if (kind != wanted) {
                fail(2);
            } else if (tokens >= TOKENS || opens && open >= OPEN_MOST) {
                fail(5);
            } else {
                open += opens ? 1 : wanted == CLOSE || wanted == RIGHT ? -1 : 0;
                house.setToken(slot, tokens, token);
                tokens++;
                next();
            }
        }

        private void formula() {
            side();
            int joint = kind;
            if (joint == ARROW || joint == SAME) {
                accept(joint, joint);
                side();
                step(joint);
            }
        }

        private void side() {
            both();
            for (int k = 0; k < TOKENS && kind == OR; k++) {
                accept(OR, OR);
                both();
                step(OR);
            }
        }

        private void both() {
            one();
            for (int k = 0; k < TOKENS && kind == AND; k++) {
                accept(AND, AND);
                one();
                step(AND);
            }
        }

        /** It goes no deeper than the 12 that may be open: behind a fault no token opens anything. */
        private void one() {
            int first = kind;
            int claim = first == NAME ? house.claimOf(lexer.nameAt(at)) : NONE;
            if (first == NOT) {
                accept(NOT, NOT);
                one();
                open--;
                step(NOT);
            } else if (first == OPEN) {
                accept(OPEN, OPEN);
                formula();
                accept(CLOSE, CLOSE);
            } else if (first == TRUE || first == FALSE) {
                accept(first, first);
                step(first);
            } else if (claim != NONE) {
                accept(NAME, NAMED | claim << KIND_BITS);
                step(NAMED | claim << KIND_BITS);
            } else if (first == NUMBER && lexer.kindAt(at + 1) == DIVIDES) {
                int n = lexer.numberAt(at);
                checkDivisor();
                accept(NUMBER, NUMBER | lexer.writtenAt(at) << KIND_BITS);
                accept(DIVIDES, DIVIDES);
                term();
                step(DIVIDES | n << KIND_BITS);
            } else {
                term();
                int compared = kind;
                accept(isComparison(compared) ? compared : EQ, compared);
                term();
                step(compared & KIND_MASK);
            }
        }

        /** A NUMBER that is one too many is that before anything else. */
        private void checkDivisor() {
            int n = lexer.numberAt(at);
            if (kind == NUMBER && tokens < TOKENS && (n < DIVISOR_LEAST || n > DIVISOR_MOST)) {
                fail(4);
            }
        }

        private void term() {
            boolean minus = kind == MINUS;
            if (minus) {
                accept(MINUS, MINUS);
            }
            part(minus);
            for (int k = 0; k < TOKENS && (kind == PLUS || kind == MINUS); k++) {
                minus = kind == MINUS;
                accept(kind, kind);
                part(minus);
                step(PLUS);
            }
            step(CHECK);
        }

        private void part(boolean minus) {
            int n = lexer.numberAt(at);
            boolean numbered = kind == NUMBER;
            if (numbered) {
                accept(NUMBER, NUMBER | lexer.writtenAt(at) << KIND_BITS);
            }
            boolean times = numbered && kind == TIMES;
            if (times) {
                accept(TIMES, TIMES);
            }
            if (times || !numbered) {
                factor();
            }
            if (numbered) {
                step((times ? TIMES : NUMBER) | n << KIND_BITS);
            }
            if (minus) {
                step(MINUS);
            }
            step(CHECK);
        }

        /** A word that a term that is asked for may not have is as wrong there as a sign. */
        private void factor() {
            int word = kind;
            int variable = house.variableOf(lexer.nameAt(at));
            if (word == NAME && variable != NONE) {
                accept(NAME, VARIABLE | variable << KIND_BITS);
                step(VARIABLE | variable << KIND_BITS);
            } else if (word == NAME) {
                fail(house.claimOf(lexer.nameAt(at)) != NONE ? 2 : 3);
            } else if (word == LEFT) {
                bracketed(LEFT);
            } else if (word >= ABS && word <= MOD && slot != GOAL) {
                accept(word, word);
                bracketed(word);
            } else {
                fail(2);
            }
        }

        /** What stands in the [ ] behind a word, or in [ ] alone. */
        private void bracketed(int word) {
            accept(LEFT, LEFT);
            term();
            int n = 0;
            if (word == MIN || word == MAX) {
                accept(COMMA, COMMA);
                term();
            } else if (word == DIV || word == MOD) {
                accept(COMMA, COMMA);
                n = lexer.numberAt(at);
                checkDivisor();
                accept(NUMBER, NUMBER | lexer.writtenAt(at) << KIND_BITS);
            }
            if (word != LEFT) {
                step(word | n << KIND_BITS);
            }
            accept(RIGHT, RIGHT);
        }
    }

    private static boolean isComparison(int kind) {
        return kind == EQ || kind >= LT && kind <= NE;
    }

    /** Makes atoms and code of a formula's steps: comparisons fall into cases, forms become lines and divisors. */
    private static final class Maker {
        static final int REFERENCE = -100;
        private static final int CASES = 64, GREAT = 1000000, LINE_FACTOR = 20, LINE_NUMBER = 99999, DIVISOR = 12;
        private static final int LEVELS = 8, DEEP = 40, FORM = 6, NUMBER_IN = 4, BELOW = 5;

        private final House house;
        /** Rows of forms, one pile for each level of cases: factors, number, denominator. */
        private final long[] forms = new long[LEVELS * DEEP * FORM];
        private final int[] tops = new int[LEVELS];
        private final int[] row = new int[6];
        private final long[] goal = new long[VARIABLES + 1];
        private int slot;
        private int codeSize;
        private boolean great;
        private boolean crowded;
        private int falsehood;

        Maker(House house) {
            this.house = house;
        }

        /** 0, or the kind of the fault that it has. */
        int make(int made) {
            begin(made);
            int size = house.fact(slot, House.STEPS_OF);
            int cases = 0;
            int names = 0;
            boolean plain = true;
            for (int i = 0; i < size; i++) {
                int step = house.step(slot, i);
                int kind = step & KIND_MASK;
                plain &= isPlain(step);
                if (kind == VARIABLE || kind == NUMBER) {
                    int last = lastOf(i, size);
                    cases = Math.min(CASES + 1, cases + casesOf(i, last));
                    if (cases <= CASES && !great) {
                        tops[0] = 0;
                        fall(i, 0);
                    }
                    plain &= arePlain(i, last);
                    i = last;
                } else if (kind == NAMED) {
                    takeNamed(step >> KIND_BITS);
                    names |= 1 << (step >> KIND_BITS);
                } else {
                    emit(-kind);
                }
            }
            house.setFact(slot, House.CASES_OF, cases);
            house.setFact(slot, House.PLAIN, plain ? 1 : 0);
            house.setFact(slot, House.NAMES_OF, names);
            house.setFact(slot, House.FALSEHOOD, falsehood);
            house.setFact(slot, House.CODE_OF, codeSize);
            return cases > CASES ? 5 : great ? 4 : crowded ? 5 : 0;
        }

        private void begin(int made) {
            slot = made;
            codeSize = 0;
            great = false;
            crowded = false;
            falsehood = 0;
            tops[0] = 0;
            house.setFact(made, House.ATOMS_OF, 0);
        }

        /** Answers whether the term that is asked is not too great. */
        boolean makeGoal() {
            begin(GOAL);
            int size = house.fact(GOAL, House.STEPS_OF);
            for (int i = 0; i < size && !great; i++) {
                int step = house.step(GOAL, i);
                work(step & KIND_MASK, step >> KIND_BITS, 0);
            }
            for (int i = 0; i <= VARIABLES; i++) {
                goal[i] = forms[form(0, 0) + i];
            }
            return !great;
        }

        long goalSizes() {
            long sizes = 0;
            for (int v = 0; v < VARIABLES; v++) {
                sizes += Math.abs(goal[v]);
            }
            return sizes;
        }

        boolean isGoalWithin(int factor, int number) {
            boolean within = Math.abs(goal[NUMBER_IN]) <= number;
            for (int v = 0; v < VARIABLES; v++) {
                within &= Math.abs(goal[v]) <= factor;
            }
            return within;
        }

        private boolean isPlain(int step) {
            int kind = step & KIND_MASK;
            if (kind == NAMED) {
                return house.fact(step >> KIND_BITS, House.PLAIN) == 1;
            }
            boolean word = kind == FALSE || kind == OR || kind == NOT || kind >= ABS && kind <= DIVIDES;
            return !word && kind != ARROW && kind != SAME && kind != NE;
        }

        private boolean arePlain(int from, int last) {
            boolean plain = true;
            for (int i = from; i <= last; i++) {
                plain &= isPlain(house.step(slot, i));
            }
            return plain;
        }

        /** Where the comparison, or the 'divides', of terms that begin there is. */
        private int lastOf(int from, int size) {
            int i = from;
            while (i < size - 1 && !isConclusion(house.step(slot, i) & KIND_MASK)) {
                i++;
            }
            return i;
        }

        private static boolean isConclusion(int kind) {
            return kind == DIVIDES || isComparison(kind);
        }

        private static int waysOf(int step) {
            int kind = step & KIND_MASK;
            return kind == DIV || kind == MOD ? step >> KIND_BITS : kind >= ABS && kind <= MAX ? 2 : 1;
        }

        private int casesOf(int from, int last) {
            int cases = 1;
            for (int i = from; i <= last; i++) {
                cases = Math.min(CASES + 1, cases * waysOf(house.step(slot, i)));
            }
            return cases;
        }

        private void takeNamed(int claim) {
            int size = house.fact(claim, House.ATOMS_OF);
            for (int k = 0; k < size; k++) {
                crowded |= !house.addAtom(slot, house.atomOf(claim, k));
            }
            falsehood |= house.fact(claim, House.FALSEHOOD);
            emit(REFERENCE - claim);
        }

        private void emit(int op) {
            if (slot >= 0 && slot < SLOTS && codeSize >= 0 && codeSize < House.CODE) {
                house.code[slot * House.CODE + codeSize] = op;
                codeSize++;
            }
        }

        /** Goes on with the terms of a comparison; each word on the way falls into its cases. */
        private void fall(int from, int level) {
            int size = house.fact(slot, House.STEPS_OF);
            for (int i = from; i < size && !great; i++) {
                int step = house.step(slot, i);
                int kind = step & KIND_MASK;
                if (kind >= ABS && kind <= MOD) {
                    split(i, level);
                    return;
                }
                if (isConclusion(kind)) {
                    conclude(kind, step >> KIND_BITS, level);
                    return;
                }
                work(kind, step >> KIND_BITS, level);
            }
        }

        /** As many levels as 64 cases can need: what would go deeper was counted out before. */
        private void split(int i, int level) {
            int step = house.step(slot, i);
            int kind = step & KIND_MASK;
            int ways = waysOf(step);
            for (int r = 0; r < ways && level + 1 < LEVELS && !great; r++) {
                if (kind == ABS) {
                    splitSign(level, r);
                } else if (kind == MIN || kind == MAX) {
                    splitOrder(level, kind == MIN ? 1 : -1, r);
                } else {
                    splitRest(level, kind == DIV, ways, r);
                }
                fall(i + 1, level + 1);
                emit(-AND);
                if (r > 0) {
                    emit(-OR);
                }
            }
        }

        private void splitSign(int level, int r) {
            int top = top(level) - 1;
            add(lineOf(form(level, top), -1, 0));
            copyLevel(level);
            if (r == 1) {
                emit(-NOT);
                multiply(form(level + 1, top), -1);
            }
        }

        private void splitOrder(int level, int sign, int r) {
            int top = top(level) - 1;
            int scratch = form(level, top + 1);
            combine(form(level, top - 1), form(level, top), -1, scratch);
            check(scratch);
            add(lineOf(scratch, sign, 0));
            copyLevel(level);
            setTop(level + 1, top);
            if (r == 1) {
                emit(-NOT);
                copyForm(form(level, top), form(level + 1, top - 1));
            }
        }

        private void splitRest(int level, boolean divided, int n, int r) {
            int top = top(level) - 1;
            int scratch = form(level, top + 1);
            copyForm(form(level, top), scratch);
            forms[scratch + NUMBER_IN] -= r * forms[scratch + BELOW];
            check(scratch);
            add(divisorOf(scratch, n));
            copyLevel(level);
            setTop(level + 1, top);
            if (divided) {
                forms[scratch + BELOW] *= n;
                copyForm(scratch, form(level + 1, top));
                setTop(level + 1, top + 1);
            } else {
                pushForm(level + 1, NONE, r);
            }
        }

        private void conclude(int kind, int n, int level) {
            int top = top(level) - 1;
            if (kind == DIVIDES) {
                add(divisorOf(form(level, top), n));
                return;
            }
            int scratch = form(level, top + 1);
            combine(form(level, top - 1), form(level, top), -1, scratch);
            check(scratch);
            if (kind == LT || kind == LE) {
                add(lineOf(scratch, 1, kind == LT ? 1 : 0));
            } else if (kind == GT || kind == GE) {
                add(lineOf(scratch, -1, kind == GT ? 1 : 0));
            } else {
                add(lineOf(scratch, 1, 0));
                add(lineOf(scratch, -1, 0));
                emit(-AND);
                if (kind == NE) {
                    emit(-NOT);
                }
            }
        }

        private void work(int kind, int number, int level) {
            int top = top(level) - 1;
            switch (kind) {
                case VARIABLE:
                    pushForm(level, number, 0);
                    break;
                case NUMBER:
                    pushForm(level, NONE, number);
                    break;
                case TIMES:
                    multiply(form(level, top), number);
                    break;
                case MINUS:
                    multiply(form(level, top), -1);
                    break;
                case PLUS:
                    combine(form(level, top - 1), form(level, top), 1, form(level, top - 1));
                    setTop(level, top);
                    break;
                default:
                    check(form(level, top));
                    break;
            }
        }

        private int top(int level) {
            return level >= 0 && level < LEVELS ? tops[level] : 0;
        }

        private void setTop(int level, int top) {
            if (level >= 0 && level < LEVELS) {
                tops[level] = top;
            }
        }

        /** Where a form begins; what would lie outside is the first one. */
        private static int form(int level, int k) {
            return level >= 0 && level < LEVELS && k >= 0 && k < DEEP ? (level * DEEP + k) * FORM : 0;
        }

        private void pushForm(int level, int variable, int number) {
            int form = form(level, top(level));
            for (int i = 0; i < FORM; i++) {
                forms[form + i] = i == variable ? 1 : i == NUMBER_IN ? number : i == BELOW ? 1 : 0;
            }
            setTop(level, top(level) + 1);
        }

        private void copyForm(int from, int to) {
            for (int i = 0; i < FORM; i++) {
                forms[to + i] = forms[from + i];
            }
        }

        private void copyLevel(int level) {
            int top = top(level);
            for (int k = 0; k < top; k++) {
                copyForm(form(level, k), form(level + 1, k));
            }
            setTop(level + 1, top);
        }

        private void multiply(int form, int by) {
            for (int i = 0; i < BELOW; i++) {
                forms[form + i] *= by;
            }
        }

        private void combine(int a, int b, int sign, int into) {
            long belowA = Math.max(1, forms[a + BELOW]);
            long belowB = Math.max(1, forms[b + BELOW]);
            long common = belowA / Math.max(1, commonDivisor(belowA, belowB)) * belowB;
            for (int i = 0; i < BELOW; i++) {
                forms[into + i] = forms[a + i] * (common / belowA) + sign * forms[b + i] * (common / belowB);
            }
            forms[into + BELOW] = common;
        }

        private void check(int form) {
            for (int i = 0; i < BELOW; i++) {
                great |= Math.abs(forms[form + i]) > GREAT;
            }
        }

        /** Form <= 0, with sign -1 form >= 0; less 1 where it may not be 0. What it answers is for add. */
        private int lineOf(int form, int sign, int less) {
            boolean flat = true;
            for (int v = 0; v < VARIABLES; v++) {
                long factor = sign * forms[form + v];
                great |= Math.abs(factor) > LINE_FACTOR;
                flat &= factor == 0;
                row[v] = (int) factor;
            }
            long most = -sign * forms[form + NUMBER_IN] - less;
            great |= Math.abs(most) > LINE_NUMBER;
            row[House.NUMBER_OF] = (int) most;
            row[House.MODULUS] = 0;
            return flat ? most >= 0 ? TRUE : FALSE : NONE;
        }

        private int divisorOf(int form, int n) {
            long modulus = Math.max(1, n * forms[form + BELOW]);
            great |= modulus > DIVISOR;
            boolean flat = true;
            for (int v = 0; v <= House.NUMBER_OF; v++) {
                row[v] = (int) Math.floorMod(forms[form + v], modulus);
                flat &= v == House.NUMBER_OF || row[v] == 0;
            }
            row[House.MODULUS] = (int) modulus;
            return flat ? row[House.NUMBER_OF] == 0 ? TRUE : FALSE : NONE;
        }

        /** The row is an atom, or just TRUE or FALSE. */
        private void add(int flat) {
            if (flat != NONE) {
                emit(-flat);
                falsehood |= flat == FALSE ? 1 : 0;
            } else if (!great && !crowded) {
                int atom = house.poolNumber(row);
                crowded = !house.addAtom(slot, atom);
                emit(atom);
            }
        }
    }

    private static long commonDivisor(long a, long b) {
        long x = a < 0 ? -a : a;
        long y = b < 0 ? -b : b;
        for (int k = 0; k < 200 && y != 0; k++) {
            long rest = x % y;
            x = y;
            y = rest;
        }
        return x;
    }

    /** The places that the atoms at work can come to, and which claims are so at each of them. */
    private static final class Places {
        private static final int MOST = 3000, WORK = 32, TABLE = 8192;
        /** How a divisor stands: these, or its modulus and, in the lowest four bits, its number. */
        private static final int NEVER = -1, ALWAYS = -2, STANDS_BITS = 4, STANDS_MASK = 15;

        private final House house;
        private final int[] work = new int[WORK];
        private final int[] workOf = new int[House.POOL];
        private final boolean[] isLine = new boolean[WORK];
        private final int[] sums = new int[LETTERS * WORK];
        private final int[] fresh = new int[WORK];
        private final int[] stands = new int[MOST * WORK];
        private final int[] next = new int[MOST * LETTERS];
        /** For each place and letter of signs: a bit for each claim that is so. */
        private final int[] so = new int[MOST * LETTERS];
        private final int[] table = new int[TABLE];
        private int atoms;
        private int needed;
        private int letters;
        private int size;

        Places(House house) {
            this.house = house;
        }

        /** Answers whether it is not HARD; claims are bits, the formula that is asked being one more. */
        boolean judge(int claims) {
            if (!explore(claims)) {
                return false;
            }
            for (int p = 0; p < size && p < MOST; p++) {
                for (int letter = 0; letter < letters && letter < LETTERS; letter++) {
                    so[p * LETTERS + letter] = soOf(atomsAt(p, letter));
                }
            }
            return true;
        }

        boolean explore(int claims) {
            if (!gather(claims)) {
                return false;
            }
            Arrays.fill(table, 0);
            size = 0;
            for (int k = 0; k < atoms && k < WORK; k++) {
                int modulus = house.pooled(work[k], House.MODULUS);
                int number = house.pooled(work[k], House.NUMBER_OF);
                fresh[k] = isLine[k] ? number : modulus << STANDS_BITS | number;
            }
            locate();
            for (int p = 0; p < size && p < MOST; p++) {
                for (int letter = 0; letter < letters && letter < LETTERS; letter++) {
                    halve(p, letter);
                    int behind = locate();
                    if (behind == NONE) {
                        return false;
                    }
                    next[p * LETTERS + letter] = behind;
                }
            }
            return true;
        }

        /** Answers whether no more than 32 atoms are at work; claims that are named are needed, too. */
        boolean gather(int claims) {
            atoms = 0;
            needed = claims;
            letters = 1 << Math.max(0, Math.min(VARIABLES, house.variables));
            for (int c = 0; c <= ASKED; c++) {
                int theirs = (claims >>> c & 1) == 1 ? house.fact(c, House.ATOMS_OF) : 0;
                for (int k = 0; k < theirs; k++) {
                    if (!addWork(house.atomOf(c, k))) {
                        return false;
                    }
                }
            }
            for (int c = ASKED; c >= 0; c--) {
                needed |= (needed >>> c & 1) == 1 ? house.fact(c, House.NAMES_OF) : 0;
            }
            return true;
        }

        private boolean addWork(int atom) {
            for (int k = 0; k < atoms && k < WORK; k++) {
                if (work[k] == atom) {
                    return true;
                }
            }
            if (atoms < 0 || atoms >= WORK || atom < 0 || atom >= House.POOL) {
                return false;
            }
            work[atoms] = atom;
            workOf[atom] = atoms;
            isLine[atoms] = house.pooled(atom, House.MODULUS) == 0;
            for (int letter = 0; letter < LETTERS; letter++) {
                int sum = 0;
                for (int v = 0; v < VARIABLES; v++) {
                    sum += (letter >>> v & 1) * house.pooled(atom, v);
                }
                sums[letter * WORK + atoms] = sum;
            }
            atoms++;
            return true;
        }

        private void halve(int place, int letter) {
            int from = place * WORK;
            int sum = letter * WORK;
            for (int k = 0; k < atoms && k < WORK; k++) {
                int stood = stands[from + k];
                fresh[k] = isLine[k] ? stood - sums[sum + k] >> 1 : halved(stood, sums[sum + k]);
            }
        }

        private static int halved(int stood, int sum) {
            if (stood < 0) {
                return stood;
            }
            int modulus = Math.max(1, stood >> STANDS_BITS);
            int number = (stood & STANDS_MASK) + sum;
            if (modulus % 2 == 1) {
                int even = number % 2 == 0 ? number : number + modulus;
                return modulus << STANDS_BITS | even / 2 % modulus;
            }
            if (number % 2 == 1) {
                return NEVER;
            }
            int less = Math.max(1, modulus / 2);
            return less == 1 ? ALWAYS : less << STANDS_BITS | number / 2 % less;
        }

        /** The number of the place that stands in fresh; NONE if it is one too many. */
        private int locate() {
            int hash = 7;
            for (int k = 0; k < atoms && k < WORK; k++) {
                hash = hash * 31 + fresh[k];
            }
            hash = (hash ^ hash >>> 15) * 0x2C1B3C6D;
            int at = (hash ^ hash >>> 13) & TABLE - 1;
            for (int k = 0; k < TABLE; k++) {
                int found = table[at] - 1;
                if (found < 0) {
                    return addPlace(at);
                }
                if (isFresh(found)) {
                    return found;
                }
                at = at + 1 & TABLE - 1;
            }
            return NONE;
        }

        private boolean isFresh(int place) {
            int from = Math.min(place, MOST - 1) * WORK;
            for (int k = 0; k < atoms && k < WORK; k++) {
                if (stands[from + k] != fresh[k]) {
                    return false;
                }
            }
            return true;
        }

        private int addPlace(int at) {
            if (size < 0 || size >= MOST) {
                return NONE;
            }
            int from = size * WORK;
            for (int k = 0; k < atoms && k < WORK; k++) {
                stands[from + k] = fresh[k];
            }
            size++;
            table[at & TABLE - 1] = size;
            return size - 1;
        }

        int behind(int place, int letter) {
            boolean there = place >= 0 && place < MOST && letter >= 0 && letter < LETTERS;
            return there ? next[place * LETTERS + letter] : 0;
        }

        /** Whether, with these signs, all of some claims are so and none of others. */
        boolean accepts(int place, int letter, int wanted, int unwanted) {
            boolean there = place >= 0 && place < MOST && letter >= 0 && letter < LETTERS;
            int is = there ? so[place * LETTERS + letter] : 0;
            return there && (is & wanted) == wanted && (is & unwanted) == 0;
        }

        /** The letters by which a place accepts, a bit for each. */
        int acceptedBy(int place, int wanted, int unwanted) {
            int bits = 0;
            for (int letter = 0; letter < letters; letter++) {
                bits |= accepts(place, letter, wanted, unwanted) ? 1 << letter : 0;
            }
            return bits;
        }

        /** Values are 0, and -1 where the letter has a bit. */
        private int atomsAt(int place, int letter) {
            int bits = 0;
            int from = Math.min(place, MOST - 1) * WORK;
            for (int k = 0; k < atoms && k < WORK; k++) {
                int stood = stands[from + k];
                int sum = sums[letter * WORK + k];
                boolean is = stood + sum >= 0;
                if (!isLine[k]) {
                    int modulus = Math.max(1, stood >> STANDS_BITS);
                    is = stood == ALWAYS || stood >= 0 && ((stood & STANDS_MASK) - sum) % modulus == 0;
                }
                bits |= is ? 1 << k : 0;
            }
            return bits;
        }

        /** Which claims are so for values of variables; the claims' atoms are few enough to be at work. */
        int soFor(int claims, long[] values) {
            if (!gather(claims)) {
                return 0;
            }
            int bits = 0;
            for (int k = 0; k < atoms && k < WORK; k++) {
                long sum = 0;
                for (int v = 0; v < VARIABLES && v < values.length; v++) {
                    sum += house.pooled(work[k], v) * values[v];
                }
                int modulus = house.pooled(work[k], House.MODULUS);
                int number = house.pooled(work[k], House.NUMBER_OF);
                boolean is = modulus == 0 ? sum <= number : (sum + number) % Math.max(1, modulus) == 0;
                bits |= is ? 1 << k : 0;
            }
            return soOf(bits);
        }

        /** Claims name only those before them, so one way through them is enough. */
        private int soOf(int atomBits) {
            int is = 0;
            for (int c = 0; c <= ASKED; c++) {
                if ((needed >>> c & 1) == 1 && isSo(c, atomBits, is)) {
                    is |= 1 << c;
                }
            }
            return is;
        }

        private boolean isSo(int claim, int atomBits, int named) {
            long pile = 0;
            int from = claim * House.CODE;
            int to = Math.min(from + house.fact(claim, House.CODE_OF), house.code.length);
            for (int i = Math.max(0, from); i < to; i++) {
                int op = house.code[i];
                if (op >= 0) {
                    pile = pile << 1 | atomBits >>> workOf[Math.min(op, House.POOL - 1)] & 1;
                } else if (op <= Maker.REFERENCE) {
                    pile = pile << 1 | named >>> Maker.REFERENCE - op & 1;
                } else if (op == -TRUE || op == -FALSE) {
                    pile = pile << 1 | (op == -TRUE ? 1 : 0);
                } else {
                    pile = op == -NOT ? pile ^ 1 : joined(pile, op);
                }
            }
            return (pile & 1) == 1;
        }

        private static long joined(long pile, int op) {
            long b = pile & 1;
            long a = pile >>> 1 & 1;
            long is = op == -AND ? a & b : op == -OR ? a | b : op == -ARROW ? a ^ 1 | b : a ^ b ^ 1;
            return pile >>> 2 << 1 | is;
        }
    }

    /** What is told of models: the least one, greatest values, how many, the core; and the bound from sizes. */
    private static final class Answers {
        private static final int MANY = 1000000000, ENDLESS = -2, PLACES = 3000;
        /** Told values are below 2^48 in size: what is beyond this has no end, or is told by no one. */
        private static final long BEYOND = 1L << 52;
        private static final long NOTHING = 0x8000000000000000L;
        private static final int LIMBS = 1100, LIMB = 1000000000, LIMB_DIGITS = 9;

        private final House house;
        private final Places places;
        private final long[] values = new long[VARIABLES];
        private final long[] tried = new long[VARIABLES];
        private final int[] far = new int[PLACES];
        private final int[] ends = new int[PLACES];
        private final long[] weights = new long[LETTERS];
        private final long[] gains = new long[PLACES];
        private final long[] gained = new long[PLACES];
        private final int[] coreTold = new int[CLAIMS];
        private final long[] limbs = new long[LIMBS];
        private int valuesTold;
        private int toldHeight = NONE;
        private long toldNumber;
        private int coreSize;
        private int limbsUsed;
        private int powerLines;
        private long powerBase;
        private int powerVariables;

        Answers(House house, Places places) {
            this.house = house;
            this.places = places;
        }

        boolean isSoFor(int claim, long a, long b, long c, long d) {
            tried[0] = a;
            tried[1] = b;
            tried[2] = c;
            tried[3] = d;
            for (int v = Math.max(0, house.variables); v < VARIABLES; v++) {
                tried[v] = 0;
            }
            return (places.soFor(1 << claim, tried) >>> claim & 1) == 1;
        }

        boolean isTold(int variable) {
            return variable >= 0 && variable < valuesTold;
        }

        long toldValue(int variable) {
            return variable >= 0 && variable < VARIABLES ? values[variable] : 0;
        }

        private int findEnds(int wanted, int unwanted) {
            int size = Math.min(places.size, PLACES);
            for (int p = 0; p < size; p++) {
                ends[p] = places.acceptedBy(p, wanted, unwanted);
            }
            return size;
        }

        private int endsOf(int place) {
            return place >= 0 && place < PLACES ? ends[place] : 0;
        }

        /** Answers whether there is a model of what is wanted and not of what is not; the least one is told. */
        boolean tellLeast(int wanted, int unwanted) {
            int size = findEnds(wanted, unwanted);
            for (int p = 0; p < size; p++) {
                far[p] = ends[p] != 0 ? 0 : NONE;
            }
            boolean grows = true;
            for (int m = 1; m <= size && grows && far[0] == NONE; m++) {
                grows = spread(m, size);
            }
            if (far[0] == NONE) {
                return false;
            }
            walk();
            return true;
        }

        /** Marks the places that have a model of height m and no lower one. */
        private boolean spread(int m, int size) {
            boolean grows = false;
            for (int p = 0; p < size; p++) {
                for (int letter = 0; letter < places.letters && far[p] == NONE; letter++) {
                    if (farFrom(places.behind(p, letter)) == m - 1) {
                        far[p] = m;
                        grows = true;
                    }
                }
            }
            return grows;
        }

        private int farFrom(int place) {
            return place >= 0 && place < PLACES ? far[place] : NONE;
        }

        private void walk() {
            int p = 0;
            toldHeight = far[0];
            valuesTold = house.variables;
            Arrays.fill(values, 0L);
            for (int m = toldHeight; m > 0; m--) {
                int letter = 0;
                while (letter < LETTERS - 1 && farFrom(places.behind(p, letter)) != m - 1) {
                    letter++;
                }
                addBits(letter, toldHeight - m, 1);
                p = places.behind(p, letter);
            }
            int signs = 0;
            while (signs < LETTERS - 1 && (endsOf(p) >>> signs & 1) == 0) {
                signs++;
            }
            addBits(signs, toldHeight, -1);
        }

        private void addBits(int letter, int bit, int sign) {
            for (int v = 0; v < VARIABLES && bit < 62; v++) {
                values[v] += (letter >>> v & 1) * sign * (1L << bit);
            }
        }

        /** The greatest value of the goal over models of at most so many bits, from each place, grows till it stays. */
        int tellExtreme(int wanted, long[] goal, boolean greatest) {
            int size = findEnds(wanted, 0);
            int sign = greatest ? 1 : -1;
            weigh(goal, sign);
            for (int p = 0; p < size; p++) {
                gains[p] = NOTHING;
                for (int letter = 0; letter < LETTERS; letter++) {
                    if ((ends[p] >>> letter & 1) == 1) {
                        gains[p] = Math.max(gains[p], -weights[letter]);
                    }
                }
            }
            boolean grows = true;
            for (int m = 0; m < 1000000 && grows; m++) {
                if (isBeyond(size)) {
                    return 2;
                }
                grows = gain(size);
            }
            if (gains[0] == NOTHING) {
                return 0;
            }
            toldNumber = sign * gains[0] + (goal.length > VARIABLES ? goal[VARIABLES] : 0);
            return 1;
        }

        private void weigh(long[] goal, int sign) {
            for (int letter = 0; letter < LETTERS; letter++) {
                weights[letter] = 0;
                for (int v = 0; v < VARIABLES && v < goal.length; v++) {
                    weights[letter] += (letter >>> v & 1) * sign * goal[v];
                }
            }
        }

        private boolean isBeyond(int size) {
            for (int p = 0; p < size && p < PLACES; p++) {
                if (gains[p] > BEYOND) {
                    return true;
                }
            }
            return false;
        }

        private boolean gain(int size) {
            boolean grows = false;
            for (int p = 0; p < size; p++) {
                long best = NOTHING;
                for (int letter = 0; letter < places.letters && letter < LETTERS; letter++) {
                    long behind = gainFrom(places.behind(p, letter));
                    if (behind != NOTHING) {
                        best = Math.max(best, Math.max(-BEYOND, 2 * behind + weights[letter]));
                    }
                }
                gained[p] = best;
                grows |= best != gains[p];
            }
            System.arraycopy(gained, 0, gains, 0, Math.min(size, PLACES));
            return grows;
        }

        private long gainFrom(int place) {
            return place >= 0 && place < PLACES ? gains[place] : NOTHING;
        }

        /** A letter before other signs makes a model longer: such ends, behind a circle of places, are endless. */
        int howMany(int wanted) {
            int size = findEnds(wanted, 0);
            for (int p = 0; p < size; p++) {
                far[p] = 0;
                for (int letter = 0; letter < places.letters; letter++) {
                    far[p] |= (endsOf(places.behind(p, letter)) & ~(1 << letter)) != 0 ? 1 : 0;
                }
            }
            boolean grows = true;
            for (int k = 0; k <= size && grows; k++) {
                grows = mark(size, 0);
            }
            boolean shrinks = true;
            for (int k = 0; k <= size && shrinks; k++) {
                shrinks = mark(size, 1);
            }
            for (int p = 0; p < size; p++) {
                if (far[p] == 1) {
                    return ENDLESS;
                }
            }
            return countAll(size);
        }

        /** Marks with 1 what comes to a 1; or, from 1, with 2 what comes to none. Answers whether a mark changed. */
        private boolean mark(int size, int from) {
            boolean changes = false;
            for (int p = 0; p < size && p < PLACES; p++) {
                if (far[p] == from) {
                    boolean comes = false;
                    for (int letter = 0; letter < places.letters && !comes; letter++) {
                        comes = farFrom(places.behind(p, letter)) == 1;
                    }
                    if (comes == (from == 0)) {
                        far[p] = from + 1;
                        changes = true;
                    }
                }
            }
            return changes;
        }

        private int countAll(int size) {
            for (int p = 0; p < size && p < PLACES; p++) {
                gains[p] = Integer.bitCount(ends[p]);
            }
            boolean grows = true;
            for (int k = 0; k <= size && grows; k++) {
                grows = false;
                for (int p = 0; p < size; p++) {
                    long sum = 0;
                    for (int letter = 0; letter < places.letters; letter++) {
                        sum += gainFrom(places.behind(p, letter));
                    }
                    gained[p] = Math.min(sum, MANY);
                    grows |= gained[p] != gains[p];
                }
                System.arraycopy(gained, 0, gains, 0, Math.min(size, PLACES));
            }
            return (int) gains[0];
        }

        private boolean anyModel(int wanted) {
            for (int p = 0; p < places.size; p++) {
                if (places.acceptedBy(p, wanted, 0) != 0) {
                    return true;
                }
            }
            return false;
        }

        /** All places can be come to, so one that accepts is a model; more atoms at work than needed change nothing. */
        int tellCore(int on) {
            coreSize = 0;
            if (anyModel(on)) {
                return 0;
            }
            int left = on;
            for (int c = CLAIMS - 1; c >= 0; c--) {
                if ((left >>> c & 1) == 1 && !anyModel(left & ~(1 << c))) {
                    left &= ~(1 << c);
                }
            }
            for (int c = 0; c < CLAIMS; c++) {
                if ((left >>> c & 1) == 1 && coreSize < CLAIMS) {
                    coreTold[coreSize] = c;
                    coreSize++;
                }
            }
            return coreSize;
        }

        int toldInCore(int k) {
            return k >= 0 && k < coreSize && k < CLAIMS ? coreTold[k] : NONE;
        }

        boolean areAlike(int i, int j) {
            for (int p = 0; p < places.size; p++) {
                if (places.acceptedBy(p, 1 << i, 0) != places.acceptedBy(p, 1 << j, 0)) {
                    return false;
                }
            }
            return true;
        }

        int boundDigit(int i) {
            int lines = 0;
            long most = 1;
            for (int atom = 0; atom < house.poolSize; atom++) {
                if (house.pooled(atom, House.MODULUS) == 0 && isOn(atom)) {
                    lines++;
                    for (int what = 0; what <= House.NUMBER_OF; what++) {
                        most = Math.max(most, Math.abs(house.pooled(atom, what)));
                    }
                }
            }
            if (lines == 0 || house.variables == 0 || i < 0) {
                return 0;
            }
            raise(house.variables, lines, lines * most);
            long limb = i / LIMB_DIGITS < limbsUsed ? limbs[i / LIMB_DIGITS] : 0;
            for (int k = i % LIMB_DIGITS; k > 0; k--) {
                limb /= 10;
            }
            return (int) (limb % 10);
        }

        private boolean isOn(int atom) {
            for (int c = 0; c < house.claims; c++) {
                int size = (house.on >>> c & 1) == 1 ? house.fact(c, House.ATOMS_OF) : 0;
                for (int k = 0; k < size; k++) {
                    if (house.atomOf(c, k) == atom) {
                        return true;
                    }
                }
            }
            return false;
        }

        /** A power is kept till another one is asked for: its digits are asked for one by one. */
        private void raise(int variables, int lines, long base) {
            if (powerVariables == variables && powerLines == lines && powerBase == base) {
                return;
            }
            powerVariables = variables;
            powerLines = lines;
            powerBase = base;
            limbs[0] = variables;
            limbsUsed = 1;
            for (int k = 0; k < 2 * lines + 1; k++) {
                long carry = 0;
                for (int i = 0; i < limbsUsed && i < LIMBS; i++) {
                    long product = limbs[i] * base + carry;
                    limbs[i] = product % LIMB;
                    carry = product / LIMB;
                }
                if (carry > 0 && limbsUsed < LIMBS) {
                    limbs[limbsUsed] = carry;
                    limbsUsed++;
                }
            }
        }
    }

    /** The own form of a claim: places that are so for the same values are one state. */
    private static final class OwnForm {
        private static final int PLACES = 3000, TABLE = 8192;

        private final Places places;
        private final int[] ends = new int[PLACES];
        private final int[] sorts = new int[PLACES];
        private final int[] finer = new int[PLACES];
        private final int[] table = new int[TABLE];
        private final int[] states = new int[PLACES];
        private final int[] samples = new int[PLACES];
        private final int[] halves = new int[PLACES * LETTERS];
        private final int[] taken = new int[PLACES];
        private int toldStates;
        private int toldLetters;

        OwnForm(Places places) {
            this.places = places;
        }

        boolean isTold(int k, int letter) {
            return k >= 0 && k < toldStates && letter >= 0 && letter < toldLetters;
        }

        int toldHalf(int k, int letter) {
            return isTold(k, letter) && k < PLACES && letter < LETTERS ? halves[k * LETTERS + letter] : 0;
        }

        int toldTakes(int k, int letter) {
            return isTold(k, letter) && k < PLACES ? taken[k] >>> letter & 1 : 0;
        }

        int tell(int claim) {
            int size = Math.min(places.size, PLACES);
            for (int p = 0; p < size; p++) {
                ends[p] = places.acceptedBy(p, 1 << claim, 0);
                sorts[p] = ends[p];
            }
            int sortCount = 0;
            boolean grows = true;
            for (int k = 0; k <= size && grows; k++) {
                int before = sortCount;
                sortCount = refine(size);
                grows = sortCount != before;
            }
            giveNumbers(size);
            return toldStates;
        }

        /** Places stay of one sort if all letters lead them to one sort; answers how many sorts there are then. */
        private int refine(int size) {
            Arrays.fill(table, 0);
            int sortCount = 0;
            for (int p = 0; p < size && p < PLACES; p++) {
                int like = likeOf(p);
                finer[p] = like == p ? sortCount : finer[like];
                sortCount += like == p ? 1 : 0;
            }
            System.arraycopy(finer, 0, sorts, 0, Math.min(size, PLACES));
            return sortCount;
        }

        /** The first place like it, itself if there was none. */
        private int likeOf(int place) {
            int hash = sortOf(place);
            for (int letter = 0; letter < places.letters; letter++) {
                hash = hash * 31 + sortOf(places.behind(place, letter));
            }
            hash = (hash ^ hash >>> 15) * 0x2C1B3C6D;
            int at = (hash ^ hash >>> 13) & TABLE - 1;
            for (int k = 0; k < TABLE; k++) {
                int found = table[at] - 1;
                if (found < 0) {
                    table[at] = place + 1;
                    return place;
                }
                if (areLike(found, place)) {
                    return Math.min(found, PLACES - 1);
                }
                at = at + 1 & TABLE - 1;
            }
            return place;
        }

        private int sortOf(int place) {
            return place >= 0 && place < PLACES ? sorts[place] : 0;
        }

        private boolean areLike(int p, int q) {
            boolean like = sortOf(p) == sortOf(q);
            for (int letter = 0; letter < places.letters && like; letter++) {
                like = sortOf(places.behind(p, letter)) == sortOf(places.behind(q, letter));
            }
            return like;
        }

        private void giveNumbers(int size) {
            Arrays.fill(states, NONE);
            toldLetters = places.letters;
            toldStates = 0;
            addState(0);
            for (int k = 0; k < toldStates && k < PLACES; k++) {
                for (int letter = 0; letter < toldLetters && letter < LETTERS; letter++) {
                    halves[k * LETTERS + letter] = addState(places.behind(samples[k], letter));
                }
            }
        }

        private int addState(int place) {
            int sort = Math.max(0, Math.min(sortOf(place), PLACES - 1));
            if (states[sort] == NONE && toldStates >= 0 && toldStates < PLACES && place >= 0 && place < PLACES) {
                states[sort] = toldStates;
                samples[toldStates] = place;
                taken[toldStates] = ends[place];
                toldStates++;
            }
            return states[sort];
        }
    }

    /**
     * Rows, and the vertex of their points for a goal, in fractions over one denominator. It goes from vertex to
     * vertex of fewer and fewer rows' points: each variable has at first a row that holds it by an endless number
     * on the side that the goal asks for, so that there always is a vertex to begin with.
     */
    private static final class Relaxer {
        private static final int ROWS = 480, ROW = 5, FIRST_ROWS = 40, LIMIT = 4;
        private static final long FACTOR_MOST = 200, LIMIT_MOST = 100000000L;
        /** Products are looked at in two parts, since the whole ones could be too great for a long. */
        private static final int LOW_BITS = 30, CROSS_BITS = 20;

        private final long[] rows = new long[ROWS * ROW];
        private final long[] goal = new long[VARIABLES];
        private final int[] basis = new int[VARIABLES];
        /** Column j, at 4 j, over the denominator: where the point goes if row j of the basis alone gives way by one. */
        private final long[] columns = new long[VARIABLES * VARIABLES];
        private final long[] mix = new long[VARIABLES];
        private final long[] point = new long[VARIABLES];
        private final long[] endless = new long[VARIABLES];
        private final long[] fractions = new long[2 + 2 * VARIABLES];
        private long goalNumber;
        private long below = 1;
        private long pointBelow = 1;
        private int size;
        private int variables;
        private int toldSize;

        /** Takes the rows of all claims that are on; answers whether there are no more than 40. */
        boolean load(House house, long[] asked) {
            size = 0;
            variables = Math.max(0, Math.min(VARIABLES, house.variables));
            for (int v = 0; v < VARIABLES && v < asked.length; v++) {
                goal[v] = asked[v];
            }
            goalNumber = asked.length > VARIABLES ? asked[VARIABLES] : 0;
            boolean few = true;
            for (int c = 0; c < house.claims; c++) {
                int atoms = (house.on >>> c & 1) == 1 ? house.fact(c, House.ATOMS_OF) : 0;
                for (int k = 0; k < atoms; k++) {
                    few &= takeAtom(house, house.atomOf(c, k));
                }
                if ((house.on >>> c & 1) == 1 && house.fact(c, House.FALSEHOOD) == 1) {
                    few &= takeAtom(house, NONE);
                }
            }
            return few;
        }

        /** NONE stands for what is false whatever the values are: all factors 0, and -1. */
        private boolean takeAtom(House house, int atom) {
            clearRow(size);
            for (int i = 0; i < ROW; i++) {
                setRow(size, i, atom != NONE ? house.pooled(atom, i) : i == LIMIT ? -1 : 0);
            }
            for (int r = 0; r < size; r++) {
                if (isLike(r, size)) {
                    return true;
                }
            }
            if (size >= FIRST_ROWS) {
                return false;
            }
            size++;
            return true;
        }

        private boolean isLike(int r, int s) {
            boolean like = true;
            for (int i = 0; i < ROW; i++) {
                like &= rowNumber(r, i) == rowNumber(s, i);
            }
            return like;
        }

        private long rowNumber(int r, int i) {
            return r >= 0 && r < ROWS && i >= 0 && i < ROW ? rows[r * ROW + i] : 0;
        }

        private void setRow(int r, int i, long number) {
            if (r >= 0 && r < ROWS && i >= 0 && i < ROW) {
                rows[r * ROW + i] = number;
            }
        }

        private void clearRow(int r) {
            for (int i = 0; i < ROW; i++) {
                setRow(r, i, 0);
            }
        }

        /** A row that says that a variable, times 1 or -1, is at most a limit. */
        void addLimit(int variable, int sign, long limit) {
            clearRow(size);
            setRow(size, variable, sign);
            setRow(size, LIMIT, limit);
            size = Math.min(size + 1, ROWS - 1);
        }

        int tell() {
            int found = solve();
            if (found == 1 || found == 3) {
                toldSize = found == 1 ? 2 + 2 * variables : 2;
                tellOne(0, goalAtPoint() + goalNumber * pointBelow);
                for (int v = 0; v < variables && found == 1; v++) {
                    tellOne(2 + 2 * v, point[v]);
                }
            }
            return found;
        }

        private void tellOne(int i, long number) {
            long common = Math.max(1, commonDivisor(number, pointBelow));
            if (i >= 0 && i + 1 < fractions.length) {
                fractions[i] = number / common;
                fractions[i + 1] = pointBelow / common;
            }
        }

        boolean isTold(int what) {
            return what >= 0 && what < toldSize;
        }

        long toldFraction(int what) {
            return what >= 0 && what < fractions.length ? fractions[what] : 0;
        }

        /** 0 there is no point; 1 there is the vertex; 2 the goal has no end; 3 it has one, but there is no vertex. */
        int solve() {
            beginEndless();
            for (int k = 0; k < 1000000; k++) {
                locate();
                int broken = brokenRow();
                if (broken == NONE) {
                    return verdict();
                }
                mixOf(broken);
                int leaving = leaving();
                if (leaving == NONE) {
                    return 0;
                }
                exchange(leaving, broken);
            }
            return 0;
        }

        private int verdict() {
            long goalEndless = 0;
            boolean ends = true;
            for (int v = 0; v < variables; v++) {
                goalEndless += goal[v] * endless[v];
                ends &= endless[v] == 0;
            }
            return ends ? 1 : goalEndless == 0 ? 3 : 2;
        }

        private void beginEndless() {
            Arrays.fill(columns, 0L);
            below = 1;
            for (int v = 0; v < VARIABLES; v++) {
                columns[v * VARIABLES + v] = goal[v] > 0 ? 1 : -1;
                basis[v] = NONE;
            }
        }

        /** A row of the basis that is NONE has an endless number at its end, others a common one. */
        private void locate() {
            pointBelow = below;
            for (int v = 0; v < VARIABLES; v++) {
                point[v] = 0;
                endless[v] = 0;
                for (int j = 0; j < variables; j++) {
                    long column = columns[j * VARIABLES + v];
                    if (basis[j] == NONE) {
                        endless[v] += column;
                    } else {
                        point[v] += column * rowNumber(basis[j], LIMIT);
                    }
                }
            }
        }

        private int brokenRow() {
            for (int r = 0; r < size; r++) {
                long far = 0;
                for (int v = 0; v < variables; v++) {
                    far += rowNumber(r, v) * endless[v];
                }
                if (far > 0 || far == 0 && slackSign(r) < 0) {
                    return r;
                }
            }
            return NONE;
        }

        /** The sign of what a row leaves at the point: 0 if it holds with = there. */
        private int slackSign(int r) {
            long mask = (1L << LOW_BITS) - 1;
            long whole = rowNumber(r, LIMIT) * pointBelow;
            long high = whole >> LOW_BITS;
            long low = whole & mask;
            for (int v = 0; v < variables; v++) {
                high -= rowNumber(r, v) * (point[v] >> LOW_BITS);
                low -= rowNumber(r, v) * (point[v] & mask);
            }
            return signOf(high + (low >> LOW_BITS), low & mask);
        }

        private static int signOf(long high, long low) {
            return high < 0 ? -1 : high > 0 || low > 0 ? 1 : 0;
        }

        private static int crossSign(long a, long b, long c, long d) {
            long mask = (1L << CROSS_BITS) - 1;
            long high = a * (b >> CROSS_BITS) - c * (d >> CROSS_BITS);
            long low = a * (b & mask) - c * (d & mask);
            return signOf(high + (low >> CROSS_BITS), low & mask);
        }

        /** The row as a sum of multiples of the basis' rows, over the denominator. */
        private void mixOf(int r) {
            for (int j = 0; j < VARIABLES; j++) {
                mix[j] = 0;
                for (int v = 0; v < variables && j < variables; v++) {
                    mix[j] += rowNumber(r, v) * columns[j * VARIABLES + v];
                }
            }
        }

        private int leaving() {
            int least = NONE;
            for (int j = 0; j < variables; j++) {
                if (mix[j] > 0 && (least == NONE || isBefore(j, least))) {
                    least = j;
                }
            }
            return least;
        }

        /** The goal comes first, then the least x0, x1 .. : no two rows are ever alike in all of these. */
        private boolean isBefore(int j, int k) {
            int sign = crossSign(goalOf(j), mix[k], goalOf(k), mix[j]);
            for (int v = 0; v < variables && sign == 0; v++) {
                sign = crossSign(-columns[j * VARIABLES + v], mix[k], -columns[k * VARIABLES + v], mix[j]);
            }
            return sign < 0;
        }

        private long goalOf(int j) {
            long sum = 0;
            for (int v = 0; v < variables; v++) {
                sum += goal[v] * columns[j * VARIABLES + v];
            }
            return sum;
        }

        private void exchange(int leaving, int coming) {
            long pivot = mix[leaving];
            long sign = pivot < 0 ? -1 : 1;
            for (int j = 0; j < variables; j++) {
                for (int v = 0; v < variables && j != leaving; v++) {
                    long changed = pivot * columns[j * VARIABLES + v] - mix[j] * columns[leaving * VARIABLES + v];
                    columns[j * VARIABLES + v] = below == 0 ? 0 : sign * (changed / below);
                }
            }
            for (int v = 0; v < variables; v++) {
                columns[leaving * VARIABLES + v] *= sign;
            }
            below = sign * pivot;
            basis[leaving] = coming;
        }

        private long goalAtPoint() {
            long sum = 0;
            for (int v = 0; v < variables; v++) {
                sum += goal[v] * point[v];
            }
            return sum;
        }

        /** The goal's value at the vertex, rounded down. */
        long goalDown() {
            return Math.floorDiv(goalAtPoint(), Math.max(1, pointBelow)) + goalNumber;
        }

        /** The first variable that is not whole at the vertex, or NONE. */
        int firstBroken() {
            for (int v = 0; v < variables; v++) {
                if (Math.floorMod(point[v], Math.max(1, pointBelow)) != 0) {
                    return v;
                }
            }
            return NONE;
        }

        long down(int variable) {
            long number = variable >= 0 && variable < VARIABLES ? point[variable] : 0;
            return Math.floorDiv(number, Math.max(1, pointBelow));
        }

        static boolean isLimit(long limit) {
            return Math.abs(limit) <= LIMIT_MOST;
        }

        /** Puts a cut for a variable behind the rows; answers whether its numbers are not too great. */
        boolean addCut(int variable) {
            findBasis();
            clearRow(size);
            long whole = Math.max(1, below);
            long downs = 0;
            long rests = 0;
            for (int j = 0; j < variables && variable >= 0 && variable < VARIABLES; j++) {
                long part = Math.floorMod(columns[j * VARIABLES + variable], whole);
                for (int v = 0; v < variables; v++) {
                    setRow(size, v, rowNumber(size, v) + part * rowNumber(basis[j], v));
                }
                long product = part * rowNumber(basis[j], LIMIT);
                downs += Math.floorDiv(product, whole);
                rests += Math.floorMod(product, whole);
            }
            return finishCut(whole, downs + Math.floorDiv(rests, whole));
        }

        private boolean finishCut(long whole, long limit) {
            long common = 0;
            for (int v = 0; v < variables; v++) {
                setRow(size, v, rowNumber(size, v) / Math.max(1, whole));
                common = commonDivisor(common, rowNumber(size, v));
            }
            common = Math.max(1, common);
            setRow(size, LIMIT, Math.floorDiv(limit, common));
            boolean within = isLimit(rowNumber(size, LIMIT));
            for (int v = 0; v < variables; v++) {
                setRow(size, v, rowNumber(size, v) / common);
                within &= Math.abs(rowNumber(size, v)) <= FACTOR_MOST;
            }
            size = within ? Math.min(size + 1, ROWS - 1) : size;
            return within;
        }

        /** From unit rows on, each row that holds with = and is no sum of those before takes a unit row's place. */
        private void findBasis() {
            Arrays.fill(columns, 0L);
            below = 1;
            for (int v = 0; v < VARIABLES; v++) {
                columns[v * VARIABLES + v] = 1;
                basis[v] = NONE;
            }
            for (int r = 0; r < size; r++) {
                if (slackSign(r) == 0) {
                    mixOf(r);
                    int free = NONE;
                    for (int j = variables - 1; j >= 0; j--) {
                        free = basis[j] == NONE && mix[j] != 0 ? j : free;
                    }
                    if (free != NONE) {
                        exchange(free, r);
                    }
                }
            }
        }
    }

    /** The search for the goal's greatest value at whole points. */
    private static final class Searcher {
        static final int NODES = 100;
        private static final int PILE = 256, CUTS_HERE = 3;

        private final Relaxer relaxer;
        /** What waits: how many rows of the one before it it has, and its own row. */
        private final int[] rowsBefore = new int[PILE];
        private final int[] variableOf = new int[PILE];
        private final int[] signOf = new int[PILE];
        private final long[] limitOf = new long[PILE];
        private final long[] values = new long[VARIABLES];
        private int pile;
        private int taken;
        private int cuts;
        private long bestValue;
        private boolean hasBest;
        private boolean told;

        Searcher(Relaxer relaxer) {
            this.relaxer = relaxer;
        }

        boolean isTold(int what) {
            return told && what >= 0 && what <= 2 + VARIABLES;
        }

        long toldBest(int what) {
            if (what == 1) {
                return taken;
            }
            if (what == 2) {
                return cuts;
            }
            int variable = what - 3;
            return what == 0 ? bestValue : variable >= 0 && variable < VARIABLES ? values[variable] : 0;
        }

        int run(int way, int most) {
            told = true;
            taken = 0;
            cuts = 0;
            bestValue = 0;
            hasBest = false;
            Arrays.fill(values, 0L);
            pile = 0;
            lay(relaxer.size, NONE, 0, 0);
            for (int k = 0; k < NODES && pile > 0 && taken < most; k++) {
                take();
                if (!look(way)) {
                    return 3;
                }
            }
            return pile > 0 ? 2 : hasBest ? 1 : 0;
        }

        private void lay(int rows, int variable, int sign, long limit) {
            if (pile >= 0 && pile < PILE) {
                rowsBefore[pile] = rows;
                variableOf[pile] = variable;
                signOf[pile] = sign;
                limitOf[pile] = limit;
                pile++;
            }
        }

        /** The rows before its own still lie there: all that was looked at since had them, too. */
        private void take() {
            if (pile > 0 && pile <= PILE) {
                pile--;
                taken++;
                relaxer.size = rowsBefore[pile];
                if (variableOf[pile] != NONE) {
                    relaxer.addLimit(variableOf[pile], signOf[pile], limitOf[pile]);
                }
            }
        }

        /** Answers whether it is not stuck. */
        private boolean look(int way) {
            for (int made = 0; made <= CUTS_HERE; made++) {
                int found = relaxer.solve();
                if (found != 1) {
                    return found == 0;
                }
                if (hasBest && relaxer.goalDown() <= bestValue) {
                    return true;
                }
                int broken = relaxer.firstBroken();
                if (broken == NONE) {
                    keepBest();
                    return true;
                }
                if (way == 0 || made == CUTS_HERE) {
                    return halve(broken);
                }
                if (!relaxer.addCut(broken)) {
                    return false;
                }
                cuts++;
            }
            return true;
        }

        private void keepBest() {
            hasBest = true;
            bestValue = relaxer.goalDown();
            for (int v = 0; v < VARIABLES; v++) {
                values[v] = v < relaxer.variables ? relaxer.down(v) : 0;
            }
        }

        private boolean halve(int variable) {
            long down = relaxer.down(variable);
            if (!Relaxer.isLimit(down) || !Relaxer.isLimit(down + 1)) {
                return false;
            }
            lay(relaxer.size, variable, -1, -(down + 1));
            lay(relaxer.size, variable, 1, down);
            return true;
        }
    }

    /** Checks proofs line by line. */
    private static final class Prover {
        private static final int LINES = 200, LINE = 5, DEEP = 20, WORDS = 4;
        private static final long GREAT = 1000000000000L;

        private final Lexer lexer;
        private final House house;
        private final long[] lines = new long[LINES * LINE];
        private final boolean[] known = new boolean[LINES];
        private final long[] row = new long[LINE];
        private final int[] numbers = new int[WORDS];
        /** Of each case that is open: its variable, its number, where its part begins, and whether it is the second. */
        private final int[] caseVariable = new int[DEEP];
        private final int[] caseNumber = new int[DEEP];
        private final int[] partBegins = new int[DEEP];
        private final boolean[] isSecond = new boolean[DEEP];
        private int size;
        private int open;
        private int faultKind;
        private int faultPlace;
        private int at;
        private int given;
        private long name;

        Prover(Lexer lexer, House house) {
            this.lexer = lexer;
            this.house = house;
        }

        boolean isLine(int i) {
            return i >= 1 && i <= size;
        }

        long lineNumber(int i, int v) {
            return i >= 1 && i <= LINES && v >= 0 && v < LINE ? lines[(i - 1) * LINE + v] : 0;
        }

        /** 1 it is a proof, 0 it is none, NONE behind a fault. */
        int check(byte[] text, int length) {
            lexer.scan(text, 0, length, true);
            size = 0;
            open = 0;
            at = 0;
            faultKind = 0;
            faultPlace = 0;
            for (int k = 0; k < TAPE && faultKind == 0 && lexer.kindAt(at) != END; k++) {
                readLine();
            }
            if (faultKind != 0) {
                return NONE;
            }
            return open == 0 && isLatestFalse() ? 1 : 0;
        }

        private void readLine() {
            int first = lexer.placeAt(at);
            int word = lexer.kindAt(at);
            given = 0;
            expect(word >= OF && word <= DONE ? word : OF);
            if (word == OF || word == CASE) {
                name = lexer.nameAt(at);
                expect(NAME);
            }
            boolean minus = word == CASE && lexer.kindAt(at) == MINUS;
            if (minus) {
                expect(MINUS);
            }
            int wanted = word == SUM ? 4 : word == CUT ? 2 : word == ELSE || word == DONE ? 0 : 1;
            for (int k = 0; k < wanted && faultKind == 0; k++) {
                takeNumber(minus);
            }
            expect(SEMI);
            if (faultKind == 0 && !isDone(word)) {
                faultKind = 5;
                faultPlace = first;
            }
        }

        private void expect(int wanted) {
            if (faultKind != 0) {
                return;
            }
            if (lexer.kindAt(at) != wanted) {
                faultKind = lexer.kindAt(at) == BAD ? 1 : 2;
                faultPlace = lexer.placeAt(at);
            }
            at++;
        }

        private void takeNumber(boolean minus) {
            int number = lexer.numberAt(at);
            expect(NUMBER);
            if (given >= 0 && given < WORDS) {
                numbers[given] = minus ? -number : number;
                given++;
            }
        }

        /** Answers whether the line that was read is right; then it is put behind the others. */
        private boolean isDone(int word) {
            if (size >= LINES) {
                return false;
            }
            Arrays.fill(row, 0L);
            switch (word) {
                case OF: return takeAtom() && addLine();
                case SUM: return takeSum() && addLine();
                case CUT: return takeCut() && addLine();
                case CASE: return openCase() && addLine();
                case ELSE: return endFirst() && addLine();
                case DONE: return endSecond() && addLine();
                default: return false;
            }
        }

        private boolean addLine() {
            for (int v = 0; v < LINE; v++) {
                if (Math.abs(row[v]) > GREAT) {
                    return false;
                }
            }
            if (size < 0 || size >= LINES) {
                return false;
            }
            for (int v = 0; v < LINE; v++) {
                lines[size * LINE + v] = row[v];
            }
            known[size] = true;
            size++;
            return true;
        }

        private boolean takeAtom() {
            int claim = house.claimOf(name);
            int k = numbers[0] - 1;
            boolean plain = claim != NONE && house.fact(claim, House.PLAIN) == 1 && (house.on >>> claim & 1) == 1;
            if (!plain || k < 0 || k >= house.fact(claim, House.ATOMS_OF)) {
                return false;
            }
            for (int v = 0; v < LINE; v++) {
                row[v] = house.pooled(house.atomOf(claim, k), v);
            }
            return true;
        }

        private boolean isKnown(int i) {
            return i >= 1 && i <= size && i <= LINES && known[i - 1];
        }

        private boolean takeSum() {
            if (!isKnown(numbers[1]) || !isKnown(numbers[3])) {
                return false;
            }
            for (int v = 0; v < LINE; v++) {
                row[v] = numbers[0] * lineNumber(numbers[1], v) + numbers[2] * lineNumber(numbers[3], v);
            }
            return true;
        }

        private boolean takeCut() {
            int n = numbers[1];
            if (!isKnown(numbers[0]) || n < 1) {
                return false;
            }
            boolean divides = true;
            for (int v = 0; v < LINE; v++) {
                long number = lineNumber(numbers[0], v);
                divides &= v == VARIABLES || number % n == 0;
                row[v] = Math.floorDiv(number, (long) n);
            }
            return divides;
        }

        private boolean openCase() {
            int variable = house.variableOf(name);
            if (variable < 0 || variable >= VARIABLES || open < 0 || open >= DEEP) {
                return false;
            }
            row[variable] = 1;
            row[VARIABLES] = numbers[0];
            caseVariable[open] = variable;
            caseNumber[open] = numbers[0];
            partBegins[open] = size;
            isSecond[open] = false;
            open++;
            return true;
        }

        private boolean endFirst() {
            if (!endPart(false)) {
                return false;
            }
            int variable = caseVariable[open - 1];
            if (variable >= 0 && variable < VARIABLES) {
                row[variable] = -1;
            }
            row[VARIABLES] = -(caseNumber[open - 1] + 1);
            isSecond[open - 1] = true;
            partBegins[open - 1] = size;
            return true;
        }

        private boolean endSecond() {
            if (!endPart(true)) {
                return false;
            }
            row[VARIABLES] = -1;
            open--;
            return true;
        }

        /** Answers whether the latest open case is in that part, and that ends with FALSE; its lines are known no more. */
        private boolean endPart(boolean second) {
            if (open < 1 || open > DEEP || isSecond[open - 1] != second || !isLatestFalse()) {
                return false;
            }
            for (int i = Math.max(0, partBegins[open - 1]); i < size && i < LINES; i++) {
                known[i] = false;
            }
            return true;
        }

        private boolean isLatestFalse() {
            boolean all = size > 0 && lineNumber(size, VARIABLES) < 0;
            for (int v = 0; v < VARIABLES; v++) {
                all &= lineNumber(size, v) == 0;
            }
            return all;
        }
    }
}
