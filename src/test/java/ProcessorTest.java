/** The promises 14, 15 and 16, Part V: the normal world's processor. */
public final class ProcessorTest {
    private static final int AT = 512;

    private ProcessorTest() {
    }

    public static void main(String[] args) {
        go();
        walk();
        setting();
        reckoning();
        reaching();
        jumping();
        stopping();
        monitor();
        goingDown();
        registers();
        Check.finish();
    }

    private static byte[] program(int... words) {
        byte[] out = new byte[4 * words.length];
        for (int i = 0; i < words.length; i++) {
            for (int k = 0; k < 4; k++) {
                out[4 * i + k] = (byte) (words[i] >> 24 - 8 * k);
            }
        }
        return out;
    }

    private static int op(int code, int d, int a, int b) {
        return code << 24 | (d & 255) << 16 | (a & 255) << 8 | b & 255;
    }

    private static int wide(int code, int d, int i) {
        return op(code, d, i >> 8, i);
    }

    /** A booted machine with a program at AT, and its processor there. */
    private static Rig with(int... words) {
        Rig rig = new Rig();
        rig.machine.boot();
        rig.store(AT, program(words));
        rig.machine.go(AT);
        return rig;
    }

    private static void due(String what, Rig rig, int register, int want) {
        Check.due(what + ": register " + register, rig.machine.register(register), want);
    }

    private static void go() {
        Rig rig = new Rig();
        Check.due("go when down", rig.machine.go(8), false);
        due("go when down", rig, 16, 0);
        rig.machine.boot();
        Check.due("go", rig.machine.go(8), true);
        due("go", rig, 16, 8);
        for (int place : new int[] {-1, 8192, Integer.MAX_VALUE, Integer.MIN_VALUE}) {
            Check.due("go(" + place + ")", rig.machine.go(place), true);
            due("go", rig, 16, place);
            Check.due("walk from there", rig.machine.walk(1), 0);
            due("it is stopped", rig, 17, 2);
        }
        rig.machine.go(0);
        due("go again", rig, 17, 0);
        Check.due("a program of 0s halts", rig.machine.walk(5), 1);
        due("halted", rig, 17, 1);
        due("the place stays", rig, 16, 0);
        Check.due("it stays halted", rig.machine.walk(5), 0);
    }

    private static void walk() {
        Rig rig = with(wide(16, 0, -1));
        for (int n : new int[] {-1, 1001, Integer.MAX_VALUE, Integer.MIN_VALUE, 0}) {
            Check.due("walk(" + n + ")", rig.machine.walk(n), 0);
        }
        Check.due("walk(1000)", rig.machine.walk(1000), 1000);
        Check.due("walk(1)", rig.machine.walk(1), 1);
        due("it goes on", rig, 17, 0);
        Rig few = with(wide(1, 1, 5), wide(1, 2, 6), op(0, 0, 0, 0));
        Check.due("walk(2)", few.machine.walk(2), 2);
        due("the place", few, 16, AT + 8);
        Check.due("one that halts is one", few.machine.walk(5), 1);
        due("the place stays", few, 16, AT + 8);
        Rig stops = with(wide(1, 1, 5), op(21, 0, 0, 0));
        Check.due("one that stops is none", stops.machine.walk(9), 1);
        due("stopped", stops, 17, 2);
        due("the place stays", stops, 16, AT + 4);
        Check.due("it stays stopped", stops.machine.walk(9), 0);
        Check.due("a boot that is none", stops.machine.boot(), false);
        due("stays stopped", stops, 17, 2);
    }

    private static void setting() {
        Rig rig = with(wide(1, 1, 0xfedc), wide(2, 1, 0x8001), wide(1, 19, 3), wide(2, 0xf2, 0xffff), wide(1, 15, 0));
        Check.due("walk", rig.machine.walk(5), 5);
        due("SET and UP", rig, 1, 0x8001fedc);
        due("registers are modulo 16", rig, 2, 0xffff0000);
        Rig again = with(wide(1, 17, 3));
        again.machine.walk(1);
        due("SET of 17", again, 1, 3);
    }

    private static void reckoning() {
        int[][] rows = {
            {3, -1, 3, 2}, {3, Integer.MAX_VALUE, 1, Integer.MIN_VALUE}, {4, 3, 5, -2}, {5, 0x10001, 0x10001, 0x20001},
            {6, 12, 10, 8}, {7, 12, 10, 14}, {8, 12, 10, 6}, {9, 3, 33, 6}, {9, 1, -1, Integer.MIN_VALUE}, {10, -1, 28, 15},
            {10, -1, 32, -1}, {11, 1, 2, 1}, {11, 2, 2, 0}, {11, -1, 1, 0}, {11, 1, -1, 1}
        };
        for (int[] r : rows) {
            Rig rig = with(wide(1, 4, r[1]), wide(2, 4, r[1] >> 16), wide(1, 5, r[2]), wide(2, 5, r[2] >> 16), op(r[0], 6, 4, 0x15));
            Check.due("walk", rig.machine.walk(5), 5);
            due("code " + r[0] + " of " + r[1] + " and " + r[2], rig, 6, r[3]);
        }
    }

    private static void reaching() {
        Rig rig = with(wide(1, 1, 1000), wide(1, 2, 0xfedc), wide(2, 2, 0x89ab), op(15, 2, 1, 3), op(14, 3, 1, 3), op(12, 4, 1, 4),
                op(13, 2, 1, 255), op(12, 5, 1, 255), op(12, 6, 7, 255));
        Check.due("walk", rig.machine.walk(9), 9);
        due("LOADW", rig, 3, 0x89abfedc);
        due("LOADB", rig, 4, 0xfe);
        due("the lowest byte", rig, 5, 0xdc);
        Check.due("STOREW", rig.machine.load(1006), 0x89);
        Check.due("STOREB", rig.machine.load(1255), 0xdc);
        int[][] places = {
            {12, 24 * 256 - 1, 0, 1}, {12, 24 * 256 - 1, 1, 0}, {13, 24 * 256, 0, 0}, {14, 24 * 256 - 4, 0, 1}, {14, 24 * 256 - 3, 0, 0},
            {15, 24 * 256 - 4, 0, 1}, {15, 24 * 256 - 4, 1, 0}, {12, -1, 0, 0}, {12, -1, 1, 1}, {14, -4, 4, 1}, {14, -4, 3, 0},
            {12, Integer.MAX_VALUE, 255, 0}, {15, Integer.MAX_VALUE, 1, 0}, {12, 2047, 0, 1}, {12, 2047, 1, 0}, {14, 2045, 0, 0}
        };
        for (int[] p : places) {
            Rig other = new Rig();
            other.machine.boot();
            other.machine.call(1, 8, 0, 0);
            other.store(AT, program(wide(1, 1, p[1]), wide(2, 1, p[1] >> 16), op(p[0], 9, 1, p[2])));
            other.machine.go(AT);
            Check.due("code " + p[0] + " at " + p[1] + " and " + p[2], other.machine.walk(3), 2 + p[3]);
            due("its state", other, 17, p[3] == 1 ? 0 : 2);
            due("its place", other, 16, AT + 8 + 4 * p[3]);
        }
    }

    private static void jumping() {
        Rig rig = with(wide(16, 0, 1), wide(1, 1, 99), wide(1, 2, 7));
        rig.machine.walk(2);
        due("JUMP over one", rig, 1, 0);
        due("to the next", rig, 2, 7);
        Rig zero = with(wide(17, 1, 1), wide(1, 2, 5), wide(1, 1, 1), wide(17, 1, 5), wide(1, 3, 6), wide(16, 0, -6));
        zero.machine.walk(4);
        due("JZERO of 0", zero, 2, 0);
        due("JZERO of 1", zero, 3, 6);
        zero.machine.walk(1);
        due("JUMP back", zero, 16, AT);
        Rig call = with(wide(18, 3, 1), wide(1, 4, 8), op(19, 3, 0, 0));
        call.machine.walk(2);
        due("CALL", call, 3, AT + 4);
        due("RET", call, 16, AT + 4);
        Rig far = with(wide(16, 0, 32767));
        far.machine.walk(1);
        due("the farthest", far, 16, AT + 4 + 4 * 32767);
        Rig back = with(wide(16, 0, -32768));
        Check.due("walk", back.machine.walk(2), 1);
        due("the farthest back", back, 16, AT + 4 - 4 * 32768);
        due("is stopped there", back, 17, 2);
        Rig self = with(wide(18, 3, -1));
        self.machine.walk(1);
        due("CALL of itself", self, 16, AT);
        due("CALL of itself", self, 3, AT + 4);
    }

    private static void stopping() {
        for (int code : new int[] {21, 22, 127, 128, 255}) {
            Rig rig = with(op(code, 0, 0, 0));
            Check.due("code " + code, rig.machine.walk(1), 0);
            due("code " + code, rig, 17, 2);
            due("code " + code, rig, 16, AT);
        }
        Rig end = new Rig();
        end.machine.boot();
        end.store(24 * 256 - 4, program(wide(1, 1, 5)));
        end.machine.go(24 * 256 - 4);
        Check.due("the last word of the normal pages", end.machine.walk(5), 1);
        due("then it is stopped", end, 17, 2);
        end.machine.go(24 * 256 - 3);
        Check.due("a word over the end", end.machine.walk(5), 0);
        Rig odd = new Rig();
        odd.machine.boot();
        odd.store(1001, program(wide(1, 1, 5)));
        odd.machine.go(1001);
        Check.due("any place will do", odd.machine.walk(1), 1);
        due("any place will do", odd, 1, 5);
        Rig own = with(wide(1, 1, AT + 12), wide(1, 2, 1), op(13, 2, 1, 0), op(0, 5, 0, 9));
        Check.due("it can write its own program", own.machine.walk(4), 4);
        due("it can write its own program", own, 5, 9);
    }

    private static void monitor() {
        Rig rig = with(wide(20, 0, 0), wide(20, 0, 99), wide(1, 1, 8), wide(20, 0, 1), wide(1, 1, 8), wide(20, 0, 1));
        Check.due("VERSION", rig.machine.walk(1), 1);
        due("its code", rig, 0, 0);
        due("its result", rig, 1, 1);
        due("the others", rig, 4, 0);
        Check.due("result(0), too", rig.machine.result(0), 1);
        rig.machine.walk(1);
        due("BAD", rig, 0, 1);
        due("its result", rig, 1, 0);
        rig.machine.walk(2);
        due("PROTECT", rig, 0, 0);
        Check.due("it is done", rig.machine.load(2048), -1);
        rig.machine.walk(2);
        due("again", rig, 0, 8);
        due("the place", rig, 16, AT + 24);

        Rig high = with(wide(20, 0, 256), wide(20, 0, 65535));
        high.machine.walk(1);
        due("call 256", high, 0, 1);
        high.machine.walk(1);
        due("call 65535", high, 0, 1);

        Rig run = Rig.with(1, new Code().sys(Code.FIRST, 0).push(1).op(Code.ADD, Code.END), new Code(14).sys(Code.PANIC));
        run.tell(1, 41, 0);
        run.store(AT, program(wide(1, 3, Rig.TOLD), wide(20, 5, 7), wide(1, 1, 0), wide(1, 2, 1), wide(1, 3, Rig.TOLD), wide(20, 0, 7)));
        run.machine.go(AT);
        Check.due("INVOKE", run.machine.walk(2), 2);
        due("INVOKE", run, 0, 0);
        due("INVOKE", run, 1, 42);
        run.machine.walk(4);
        due("a fault", run, 0, 5);
        due("its number", run, 1, 8);
    }

    private static void goingDown() {
        Code put = new Code().text(0, "n").sys(Code.PUT, 0, 1, 0, 1).op(Code.END);
        Rig rig = Rig.with(1, put);
        rig.store(AT, program(wide(1, 9, 77), wide(1, 3, Rig.TOLD), wide(20, 0, 7), wide(1, 9, 78)));
        rig.machine.go(AT);
        rig.machine.power(2);
        Check.due("walk", rig.machine.walk(9), 3);
        Check.due("down", rig.machine.isDown(), true);
        due("its code", rig, 0, -1);
        due("its results", rig, 1, 0);
        due("its results", rig, 3, 0);
        due("halted", rig, 17, 1);
        due("the place is behind", rig, 16, AT + 12);
        due("registers stay", rig, 9, 77);
        Check.due("walk when down", rig.machine.walk(9), 0);
        Check.due("go when down", rig.machine.go(0), false);
        due("the place stays", rig, 16, AT + 12);
        rig.machine.boot();
        for (int i = 0; i < 18; i++) {
            due("behind the boot", rig, i, 0);
        }

        Rig called = Rig.with(1, put);
        called.machine.go(AT);
        called.machine.power(0);
        Check.due("by a call from outside", called.invoke(0, 0), "code -1");
        due("halted", called, 17, 1);
        due("the place stays", called, 16, AT);
    }

    private static void registers() {
        Rig rig = with(wide(1, 0, 5));
        rig.machine.walk(1);
        due("a register", rig, 0, 5);
        for (int i : new int[] {-1, 18, Integer.MAX_VALUE, Integer.MIN_VALUE}) {
            boolean thrown = false;
            try {
                rig.machine.register(i);
            } catch (IndexOutOfBoundsException e) {
                thrown = e.getClass() == IndexOutOfBoundsException.class;
            }
            Check.due("register(" + i + ") throws", thrown, true);
        }
    }
}
