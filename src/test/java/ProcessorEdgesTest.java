/** The promises 14, 15 and 16, Part V: the sentences that name an edge of the processor, one test each. */
public final class ProcessorEdgesTest {
    private static final int BIG = Integer.MAX_VALUE;
    private static final int LOW = Integer.MIN_VALUE;
    private static final int AT = 512;
    private static final int WALL = 24 * 256;

    private ProcessorEdgesTest() {
    }

    public static void main(String[] args) {
        zeroAtABoot();
        fourBytesInNormalPages();
        registersModulo();
        numbersWithAndWithoutSign();
        halted();
        setAndUp();
        worked();
        shifts();
        less();
        loadAndStore();
        placesBeyond();
        wrapAround();
        jumps();
        jumpIfZero();
        callAndRet();
        monitor();
        monitorNumbers();
        others();
        down();
        stays();
        goWhenDown();
        goAnywhere();
        walkSo();
        walkCounts();
        walkWhenDown();
        registerNumbers();
        stateBeforeAnyBoot();
        Check.finish();
    }

    private static byte[] program(int... words) {
        byte[] out = new byte[4 * words.length];
        for (int i = 0; i < out.length; i++) {
            out[i] = (byte) (words[i / 4] >> 24 - 8 * (i % 4));
        }
        return out;
    }

    private static int op(int code, int d, int a, int b) {
        return code << 24 | (d & 255) << 16 | (a & 255) << 8 | b & 255;
    }

    private static int wide(int code, int d, int i) {
        return op(code, d, i >> 8, i);
    }

    private static Rig with(int... words) {
        return at(AT, words);
    }

    private static Rig at(int place, int... words) {
        Rig rig = new Rig();
        rig.machine.boot();
        rig.store(place, program(words));
        rig.machine.go(place);
        return rig;
    }

    /** Two instructions that make register r a word. */
    private static int[] set(int r, int word) {
        return new int[] {wide(1, r, word), wide(2, r, word >> 16)};
    }

    private static void due(String what, Rig rig, int register, int want) {
        Check.due(what + ": register " + register, rig.machine.register(register), want);
    }

    private static void walked(String what, Rig rig, int n, int want) {
        Check.due(what, rig.machine.walk(n), want);
    }

    /** "It has 16 registers of 32 bits, 0 at a boot, and a PLACE, 0 at a boot": at each one. */
    private static void zeroAtABoot() {
        byte[] image = Code.image(1, new Code().sys(Code.PUT, 0, 0, 0, 1).op(Code.END));
        Rig rig = new Rig();
        rig.burn(image, 7);
        rig.start();
        for (int i = 0; i < 18; i++) {
            due("the first boot", rig, i, 0);
        }
        rig.bringIn(image);
        rig.open(0);
        int[] words = new int[16];
        for (int i = 0; i < 16; i++) {
            words[i] = wide(1, i, i + 1);
        }
        rig.store(AT, program(words));
        rig.machine.go(AT);
        walked("all are set", rig, 16, 16);
        for (int i = 0; i < 16; i++) {
            due("set", rig, i, i + 1);
        }
        due("the PLACE", rig, 16, AT + 64);
        rig.machine.power(0);
        Check.due("the power ends", rig.invoke(0, 0), "code -1");
        for (int i = 0; i < 16; i++) {
            due("they stay until the boot", rig, i, i + 1);
        }
        rig.machine.boot();
        for (int i = 0; i < 18; i++) {
            due("the second boot", rig, i, 0);
        }
    }

    /** "An INSTRUCTION is four bytes from the PLACE on, in NORMAL pages (otherwise it is STOPPED)". */
    private static void fourBytesInNormalPages() {
        int[][] rows = {{WALL - 4, 1}, {WALL - 3, 0}, {WALL - 1, 0}, {WALL, 0}, {8188, 0}, {8191, 0}, {8192, 0}, {BIG, 0}, {BIG - 3, 0}, {-1, 0},
            {-4, 0}, {LOW, 0}, {0, 1}, {1, 1}, {2044, 1}, {2045, 0}, {2047, 0}, {2048, 0}, {2303, 0}, {2304, 1}};
        for (int[] r : rows) {
            Rig rig = new Rig();
            rig.machine.boot();
            rig.machine.call(1, 8, 0, 0);
            rig.machine.go(r[0]);
            walked("an INSTRUCTION at " + r[0], rig, 1, r[1]);
            due("its state", rig, 17, r[1] == 1 ? 1 : 2);
            due("its PLACE", rig, 16, r[0]);
        }
        Rig last = at(WALL - 4, wide(1, 3, 7));
        walked("the last one", last, 9, 1);
        due("it is done", last, 3, 7);
        due("the PLACE", last, 16, WALL);
        due("then it is STOPPED", last, 17, 2);
    }

    /** "d, a, b (registers: modulo 16 ..)". */
    private static void registersModulo() {
        for (int high = 0; high < 256; high += 16) {
            Rig rig = with(wide(1, 1 + high, 1000), wide(1, 2 + high, 24), op(3, 15 + high, 1 + high, 2 + high), op(15, 15 + high, 1 + high, 0),
                    op(14, 4 + high, 1 + high, 0), op(3, high, 14 + high, 15 + high));
            walked("with registers of " + high, rig, 6, 6);
            due("ADD", rig, 15, 1024);
            due("LOADW", rig, 4, 1024);
            due("register 0", rig, 0, 1024);
        }
    }

    /** "i: a and b as 16 bits, a the higher, j: those with sign". */
    private static void numbersWithAndWithoutSign() {
        for (int i : new int[] {0, 1, 255, 256, 32767, 32768, 65535}) {
            Rig rig = with(wide(1, 3, i));
            walked("SET", rig, 1, 1);
            due("SET of " + i, rig, 3, i);
        }
        int[][] jumps = {{0, 0}, {1, 1}, {255, 255}, {256, 256}, {32767, 32767}, {32768, -32768}, {65535, -1}, {65534, -2}};
        for (int[] j : jumps) {
            Rig rig = with(wide(16, 0, j[0]));
            walked("JUMP", rig, 1, 1);
            due("JUMP by " + j[1], rig, 16, AT + 4 + 4 * j[1]);
        }
    }

    /** "0 it is HALTED (the PLACE stays)"; "one that halts is one". */
    private static void halted() {
        Rig rig = with(op(0, 9, 9, 9), wide(1, 1, 1));
        walked("it halts", rig, 5, 1);
        due("its state", rig, 17, 1);
        due("its PLACE", rig, 16, AT);
        walked("it stays so", rig, 5, 0);
        due("nothing is done", rig, 1, 0);
    }

    /** "1 SET d i. 2 UP d i: d becomes i * 65536 + its lower 16 bits". */
    private static void setAndUp() {
        int[][] rows = {{0xffff, 0xffff, -1}, {0, 0x8000, LOW}, {0xffff, 0x7fff, BIG}, {0x1234, 0, 0x1234}, {1, 1, 65537}};
        for (int[] r : rows) {
            Rig rig = with(wide(1, 3, r[0]), wide(2, 3, r[1]));
            walked("SET and UP", rig, 2, 2);
            due("SET and UP", rig, 3, r[2]);
        }
        Rig twice = with(wide(1, 3, 5), wide(2, 3, 0xffff), wide(2, 3, 2), wide(1, 4, 7), wide(2, 4, 9), wide(1, 4, 6));
        walked("UP twice, and SET behind it", twice, 6, 6);
        due("the lower 16 bits stay", twice, 3, 2 * 65536 + 5);
        due("SET leaves nothing", twice, 4, 6);
    }

    private static int reckoned(int code, int x, int y) {
        int[] a = set(4, x);
        int[] b = set(9, y);
        Rig rig = with(a[0], a[1], b[0], b[1], op(code, 6, 4, 9));
        walked("code " + code, rig, 5, 5);
        due("code " + code + " leaves a", rig, 4, x);
        due("code " + code + " leaves b", rig, 9, y);
        return rig.machine.register(6);
    }

    /** "3 ADD, 4 SUB, 5 MUL, 6 AND, 7 OR, 8 XOR .. d becomes a and b worked": of 32 bits. */
    private static void worked() {
        int[][] rows = {{3, -1, 1, 0}, {3, BIG, 1, LOW}, {3, LOW, LOW, 0}, {4, 0, 1, -1}, {4, LOW, 1, BIG}, {4, 3, 5, -2}, {5, BIG, 2, -2},
            {5, 65536, 65536, 0}, {5, -1, -1, 1}, {6, -1, LOW, LOW}, {6, 12, 10, 8}, {7, 12, 10, 14}, {7, LOW, 1, LOW + 1}, {8, 12, 10, 6},
            {8, -1, LOW, BIG}};
        for (int[] r : rows) {
            Check.due("code " + r[0] + " of " + r[1] + " and " + r[2], reckoned(r[0], r[1], r[2]), r[3]);
        }
    }

    /** "9 SHL, 10 SHR (by b mod 32, without sign)": b is a register's. */
    private static void shifts() {
        int[][] rows = {{9, 5, 0, 5}, {9, 1, 31, LOW}, {9, 5, 32, 5}, {9, 5, 33, 10}, {9, 1, -1, LOW}, {10, LOW, 0, LOW}, {10, LOW, 31, 1},
            {10, LOW, 32, LOW}, {10, -1, 1, BIG}, {10, -1, -1, 1}, {10, -1, 33, BIG}};
        for (int[] r : rows) {
            Check.due("code " + r[0] + " of " + r[1] + " by " + r[2], reckoned(r[0], r[1], r[2]), r[3]);
        }
    }

    /** "11 LESS: 1 or 0, without sign". */
    private static void less() {
        int[][] rows = {{0, 0, 0}, {0, 1, 1}, {1, 0, 0}, {-1, 0, 0}, {0, -1, 1}, {BIG, LOW, 1}, {LOW, BIG, 0}, {-2, -1, 1}, {-1, -1, 0}};
        for (int[] r : rows) {
            Check.due("LESS of " + r[0] + " and " + r[1], reckoned(11, r[0], r[1]), r[2]);
        }
    }

    /** "12 LOADB d a b: d becomes the byte at register a + b (b here a number), 13 STOREB, 14 LOADW, 15 STOREW likewise". */
    private static void loadAndStore() {
        for (int b : new int[] {0, 1, 127, 128, 255}) {
            Rig rig = new Rig();
            rig.machine.boot();
            rig.store(2000 + b, new byte[] {(byte) 0x81, (byte) 0xff, 3, (byte) 0x84, 5});
            int[] w = set(7, 0xa1b2c3d4);
            rig.store(AT, program(wide(1, 5, 2000), op(12, 1, 5, b), op(14, 2, 5, b), w[0], w[1], op(13, 7, 5, b), op(14, 3, 5, b),
                    op(15, 7, 5, b), op(14, 4, 5, b), op(12, 6, 5, b)));
            rig.machine.go(AT);
            walked("LOAD and STORE with " + b, rig, 10, 10);
            due("LOADB", rig, 1, 0x81);
            due("LOADW", rig, 2, 0x8403ff81);
            due("STOREB changes one byte", rig, 3, 0x8403ffd4);
            due("STOREW", rig, 4, 0xa1b2c3d4);
            due("LOADB", rig, 6, 0xd4);
            Check.due("the byte behind", rig.machine.load(2004 + b), 5);
        }
    }

    /** "all in NORMAL pages, otherwise it is STOPPED (the PLACE stays)": nothing is changed. */
    private static void placesBeyond() {
        int[] places = {-4, -3, -1, 0, 2044, 2045, 2047, 2048, 2300, 2303, 2304, WALL - 4, WALL - 3, WALL - 1, WALL, 8188, 8191, 8192, BIG, LOW};
        for (int code = 12; code <= 15; code++) {
            int n = code >= 14 ? 4 : 1;
            for (int place : places) {
                boolean normal = place >= 0 && place <= 2048 - n || place >= 2304 && place <= WALL - n;
                Rig rig = new Rig();
                rig.machine.boot();
                rig.machine.call(1, 8, 0, 0);
                rig.store(0, new byte[] {6, 6, 6, 6});
                int[] w = set(1, place);
                rig.store(AT, program(w[0], w[1], wide(1, 2, 0x6666), op(code, 2, 1, 0)));
                rig.machine.go(AT);
                walked("code " + code + " at " + place, rig, 4, normal ? 4 : 3);
                due("its state", rig, 17, normal ? 0 : 2);
                due("its PLACE", rig, 16, normal ? AT + 16 : AT + 12);
                if (!normal) {
                    due("nothing is changed", rig, 2, 0x6666);
                    Check.due("nothing is changed", rig.machine.load(2047), 0);
                    Check.due("nothing is changed", rig.machine.load(0), 6);
                }
            }
        }
    }

    /** Registers are of 32 bits: register a + b wraps around, and so does the PLACE. */
    private static void wrapAround() {
        int[] w = set(1, -1);
        Rig rig = with(w[0], w[1], op(12, 2, 1, 1), op(12, 3, 1, 255), op(14, 4, 1, 1));
        rig.store(0, new byte[] {9, 8, 7, 6});
        walked("from -1 on", rig, 5, 5);
        due("-1 and 1", rig, 2, 9);
        due("-1 and 255", rig, 3, 0);
        due("the word at -1 and 1", rig, 4, 0x06070809);
        int[] high = set(1, BIG);
        Rig up = with(high[0], high[1], op(12, 2, 1, 1));
        walked("from the greatest on", up, 3, 2);
        due("STOPPED", up, 17, 2);
    }

    /** "16 JUMP j: PLACE + 4 j (from behind this one)". */
    private static void jumps() {
        Rig self = with(wide(16, 0, -1));
        walked("JUMP to itself", self, 1000, 1000);
        due("its PLACE", self, 16, AT);
        Rig next = with(wide(16, 7, 0), wide(1, 1, 3));
        walked("JUMP to the next", next, 2, 2);
        due("it is done", next, 1, 3);
        Rig start = at(0, wide(16, 0, -2));
        walked("JUMP ahead of all", start, 2, 1);
        due("its PLACE", start, 16, -4);
        due("STOPPED", start, 17, 2);
    }

    /** "17 JZERO d j: if d is 0". */
    private static void jumpIfZero() {
        for (int value : new int[] {0, 1, -1, LOW, 65536}) {
            int[] w = set(3, value);
            Rig rig = with(w[0], w[1], wide(17, 3, 5));
            walked("JZERO of " + value, rig, 3, 3);
            due("JZERO of " + value, rig, 16, AT + 12 + (value == 0 ? 20 : 0));
            due("the register", rig, 3, value);
        }
    }

    /** "18 CALL d j: d becomes the PLACE, then as JUMP. 19 RET d: the PLACE becomes d". */
    private static void callAndRet() {
        Rig rig = with(wide(18, 5, 2), wide(1, 1, 1), op(0, 0, 0, 0), wide(19, 5, 99));
        walked("CALL", rig, 1, 1);
        due("d is the place behind", rig, 5, AT + 4);
        due("the PLACE", rig, 16, AT + 12);
        walked("RET", rig, 1, 1);
        due("the PLACE", rig, 16, AT + 4);
        for (int to : new int[] {-1, LOW, BIG, 3}) {
            int[] w = set(5, to);
            Rig far = with(w[0], w[1], wide(19, 5, 0));
            walked("RET to " + to, far, 3, 3);
            due("the PLACE", far, 16, to);
            due("not STOPPED yet", far, 17, 0);
        }
    }

    /** "20 MONITOR i: the call i with registers 1, 2, 3: register 0 its CODE, 1 .. 4 its RESULTS". */
    private static void monitor() {
        byte[] image = Code.image(1, new Code().sys(Code.PUT, 0, 1, 0, 1).op(Code.END));
        Rig rig = new Rig();
        rig.burn(image, 7);
        rig.start();
        rig.bringIn(image);
        rig.open(0);
        rig.invoke(0, 0);
        rig.store(AT, program(wide(1, 0, 9), wide(1, 1, 0), wide(1, 2, 9), wide(1, 3, 9), wide(1, 4, 9), wide(1, 5, 9), wide(20, 5, 10),
                wide(1, 1, 8), wide(20, 0, 10)));
        rig.machine.go(AT);
        walked("KEPT", rig, 7, 7);
        int[] due = {0, 1, 1, 4, 0, 9};
        for (int i = 0; i < 6; i++) {
            due("KEPT", rig, i, due[i]);
        }
        Check.due("result(2)", rig.machine.result(2), 4);
        walked("KEPT of 8", rig, 2, 2);
        int[] bad = {1, 0, 0, 0, 0, 9};
        for (int i = 0; i < 6; i++) {
            due("KEPT of 8", rig, i, bad[i]);
        }
        rig.store(AT, program(wide(1, 1, 100), wide(1, 2, 3), wide(1, 3, 200), wide(20, 0, 9)));
        rig.store(100, new byte[] {1, 2, 3});
        rig.machine.go(AT);
        walked("DIGEST", rig, 4, 4);
        due("DIGEST", rig, 0, 0);
        Check.due("DIGEST", rig.memory(200, 32), Model.sha(new byte[] {1, 2, 3}));
    }

    /** MONITOR with numbers that no call has: i is of 16 bits. */
    private static void monitorNumbers() {
        for (int i : new int[] {17, 255, 256, 257, 512, 32768, 65535}) {
            Rig rig = with(wide(20, 0, i));
            walked("MONITOR " + i, rig, 1, 1);
            due("MONITOR " + i, rig, 0, 1);
            due("the PLACE", rig, 16, AT + 4);
        }
    }

    /** "Others: STOPPED (the PLACE stays)". */
    private static void others() {
        for (int code = 21; code < 256; code++) {
            Rig rig = with(op(code, 1, 1, 1));
            walked("code " + code, rig, 5, 0);
            due("code " + code, rig, 17, 2);
            due("code " + code, rig, 16, AT);
        }
    }

    /** "When the machine goes DOWN, it is HALTED (a MONITOR by which it does is done: register 0 is -1; registers stay ..)". */
    private static void down() {
        byte[] image = Code.image(1, new Code().end());
        for (int state = 0; state < 4; state++) {
            Rig rig = new Rig();
            rig.burn(image, 7);
            rig.machine.product(0, 0, 1);
            rig.start();
            rig.bringIn(image);
            rig.store(AT, program(wide(1, 4, 7), wide(20, 0, 14), wide(1, 4, 8)));
            rig.machine.go(state == 1 ? -1 : state == 2 ? AT + 12 : AT);
            if (state == 1 || state == 2) {
                rig.machine.walk(1);
            }
            due("ahead of it", rig, 17, state == 1 ? 2 : state == 2 ? 1 : 0);
            rig.machine.power(0);
            if (state == 3) {
                walked("MONITOR by which it goes down", rig, 9, 2);
                due("register 0", rig, 0, -1);
                due("register 1", rig, 1, 0);
                due("register 4 has a RESULT", rig, 4, 0);
                due("the PLACE", rig, 16, AT + 8);
            } else {
                Check.due("RAISE", rig.machine.call(14, 0, 0, 0), -1);
                due("register 0", rig, 0, 0);
                due("the PLACE", rig, 16, state == 1 ? -1 : state == 2 ? AT + 12 : AT);
            }
            due("HALTED", rig, 17, 1);
            rig.machine.boot();
            due("behind the boot", rig, 17, 0);
        }
    }

    /** "HALTED and STOPPED it stays until a boot or go()". */
    private static void stays() {
        for (int code : new int[] {0, 99}) {
            Rig rig = with(op(code, 0, 0, 0), wide(1, 1, 3));
            int state = code == 0 ? 1 : 2;
            rig.machine.walk(1);
            rig.machine.call(0, 0, 0, 0);
            rig.store(AT, program(wide(1, 1, 4)));
            rig.machine.boot();
            due("it stays", rig, 17, state);
            walked("and does nothing", rig, 3, 0);
            due("and does nothing", rig, 1, 0);
            Check.due("go", rig.machine.go(AT + 4), true);
            due("go", rig, 17, 0);
            walked("it goes on", rig, 1, 1);
            due("it goes on", rig, 1, 3);
        }
    }

    /** Promise 14: "false when the machine is DOWN". */
    private static void goWhenDown() {
        Rig rig = new Rig();
        Check.due("go before any boot", rig.machine.go(7), false);
        due("the PLACE", rig, 16, 0);
        due("the state", rig, 17, 0);
        rig.machine.boot();
        due("the PLACE behind the boot", rig, 16, 0);
    }

    /** Promise 14: "The processor goes to a place, neither HALTED nor STOPPED: true": to any place. */
    private static void goAnywhere() {
        Rig rig = new Rig();
        rig.machine.boot();
        for (int place : new int[] {0, 1, WALL, 8192, BIG, LOW, -1}) {
            Check.due("go(" + place + ")", rig.machine.go(place), true);
            due("the PLACE", rig, 16, place);
            due("the state", rig, 17, 0);
        }
    }

    /** Promise 15: "At most n INSTRUCTIONS, 0 .. 1000 (others: none)". */
    private static void walkSo() {
        for (int n : new int[] {LOW, -1, 0, 1, 2, 999, 1000, 1001, BIG}) {
            Rig rig = with(op(3, 1, 1, 2), wide(16, 0, -2));
            rig.store(0, program(wide(1, 2, 1)));
            rig.machine.go(0);
            rig.machine.walk(1);
            rig.machine.go(AT);
            int want = n >= 0 && n <= 1000 ? n : 0;
            walked("walk(" + n + ")", rig, n, want);
            due("so many times", rig, 1, (want + 1) / 2);
            due("the state", rig, 17, 0);
        }
    }

    /** Promise 15: "how many were done (one that stops is none, one that halts is one)". */
    private static void walkCounts() {
        Rig halts = with(wide(1, 1, 1), wide(1, 1, 2), op(0, 0, 0, 0));
        walked("two and one that halts", halts, 1000, 3);
        Rig stops = with(wide(1, 1, 1), wide(1, 1, 2), op(21, 0, 0, 0));
        walked("two and one that stops", stops, 1000, 2);
        Rig beyond = with(wide(1, 1, 1), op(2, 1, 255, 255), op(12, 2, 1, 0));
        walked("two and one that goes beyond", beyond, 1000, 2);
        Rig just = with(wide(1, 1, 1), wide(1, 1, 2), op(0, 0, 0, 0));
        walked("just two", just, 2, 2);
        due("not HALTED yet", just, 17, 0);
        walked("and one", just, 1, 1);
        due("HALTED", just, 17, 1);
    }

    /** Promise 15: "0 when the machine is DOWN". */
    private static void walkWhenDown() {
        walked("before any boot", new Rig(), 5, 0);
        Rig rig = Rig.with(1, new Code().sys(Code.PUT, 0, 0, 0, 1).op(Code.END));
        rig.machine.power(0);
        rig.invoke(0, 0);
        walked("when it is down again", rig, 5, 0);
    }

    /** Promise 16: "Register i; 16: the PLACE; 17: 0 .., or 1 HALTED, 2 STOPPED. IndexOutOfBoundsException for others." */
    private static void registerNumbers() {
        Rig rig = with(wide(1, 0, 100), wide(1, 15, 115));
        rig.machine.walk(2);
        due("the first", rig, 0, 100);
        due("the last", rig, 15, 115);
        due("the PLACE", rig, 16, AT + 8);
        for (int i : new int[] {-1, 18, 19, BIG, LOW, 0, 15, 16, 17}) {
            boolean thrown = false;
            try {
                rig.machine.register(i);
            } catch (IndexOutOfBoundsException e) {
                thrown = e.getClass() == IndexOutOfBoundsException.class;
            }
            Check.due("register(" + i + ") throws", thrown, i < 0 || i > 17);
        }
    }

    /** Promise 16: "17: 0 (before any boot, too)". */
    private static void stateBeforeAnyBoot() {
        Rig rig = new Rig();
        for (int i = 0; i < 18; i++) {
            due("before any boot", rig, i, 0);
        }
        rig.machine.call(0, 0, 0, 0);
        rig.machine.power(0);
        due("behind a call", rig, 17, 0);
    }
}
