import java.io.ByteArrayOutputStream;

/** Writes codes of Part III, with names for those that the tests use. */
final class Code {
    static final int END = 0;
    static final int PUSH = 1;
    static final int DUP = 2;
    static final int DROP = 3;
    static final int SWAP = 4;
    static final int ADD = 5;
    static final int SUB = 6;
    static final int MUL = 7;
    static final int AND = 8;
    static final int OR = 9;
    static final int XOR = 10;
    static final int SHL = 11;
    static final int SHR = 12;
    static final int LESS = 13;
    static final int SAME = 14;
    static final int JUMP = 15;
    static final int JZERO = 16;
    static final int CALL = 17;
    static final int RET = 18;
    static final int LOADB = 19;
    static final int STOREB = 20;
    static final int LOADW = 21;
    static final int STOREW = 22;
    static final int SYS = 23;

    static final int SORT = 0;
    static final int FIRST = 1;
    static final int SECOND = 2;
    static final int SETFIRST = 3;
    static final int SETSECOND = 4;
    static final int SIZE = 5;
    static final int GETBYTE = 6;
    static final int PUTBYTE = 7;
    static final int PUT = 8;
    static final int GET = 9;
    static final int DELETE = 10;
    static final int HAS = 11;
    static final int CANCELLED = 12;
    static final int HASH = 13;
    static final int COUNT = 14;
    static final int MAKE = 15;
    static final int PANIC = 16;
    static final int SELF = 17;
    static final int ASK = 18;
    static final int GROW = 19;
    static final int MAC = 20;
    static final int SEAL = 21;
    static final int OPEN = 22;
    static final int SIGN = 23;
    static final int VERIFY = 24;
    static final int PUBLIC = 25;
    static final int LIST = 26;
    static final int BEGIN = 27;
    static final int COMMIT = 28;
    static final int UNDO = 29;
    static final int TIME = 30;
    static final int AGREE = 31;
    static final int MOVE = 32;

    private final ByteArrayOutputStream out = new ByteArrayOutputStream();
    private final int begins;

    Code() {
        this(0);
    }

    /** A command that begins at a place of the whole code: its jumps are told from there. */
    Code(int begins) {
        this.begins = begins;
    }

    int size() {
        return out.size();
    }

    int place() {
        return begins + out.size();
    }

    Code raw(int... bytes) {
        for (int b : bytes) {
            out.write(b);
        }
        return this;
    }

    Code op(int... codes) {
        return raw(codes);
    }

    Code push(int... words) {
        for (int w : words) {
            raw(PUSH, w, w >> 8, w >> 16, w >> 24);
        }
        return this;
    }

    Code sys(int n) {
        return raw(SYS, n);
    }

    /** SYS n behind the words that it takes. */
    Code sys(int n, int... words) {
        return push(words).sys(n);
    }

    Code jump(int code, int place) {
        return raw(code, place >> 8, place);
    }

    /** The four bytes of w come to the address a. */
    Code word(int a, int w) {
        return push(w, a).op(STOREW);
    }

    /** The bytes of a text come to the address a, 0s behind them up to a multiple of four. */
    Code text(int a, String text) {
        for (int i = 0; i < text.length(); i += 4) {
            int w = 0;
            for (int k = 3; k >= 0; k--) {
                w = w << 8 | (i + k < text.length() ? text.charAt(i + k) : 0);
            }
            word(a + i, w);
        }
        return this;
    }

    /** The n bytes from a on come to bytes 0 .. n - 1 of a PARAMETER; the word at 248 is worked with. */
    Code giveOut(int a, int n, int parameter) {
        word(248, n);
        int loop = place();
        push(248).op(LOADW).push(1).op(SUB, DUP).push(248).op(STOREW);
        op(DUP).push(a).op(ADD, LOADB, SWAP).push(parameter).sys(PUTBYTE);
        push(248).op(LOADW);
        return jump(JZERO, place() + 6).jump(JUMP, loop);
    }

    /** Bytes 0 .. n - 1 of a PARAMETER come to the bytes from a on; the word at 248 is worked with. */
    Code takeIn(int parameter, int n, int a) {
        word(248, n);
        int loop = place();
        push(248).op(LOADW).push(1).op(SUB, DUP).push(248).op(STOREW);
        op(DUP).push(parameter).sys(GETBYTE).op(SWAP).push(a).op(ADD, STOREB);
        push(248).op(LOADW);
        return jump(JZERO, place() + 6).jump(JUMP, loop);
    }

    Code end() {
        return raw(END);
    }

    /** Ends with a word. */
    Code end(int w) {
        return push(w).raw(END);
    }

    byte[] bytes() {
        return out.toByteArray();
    }

    /** An image of some pages whose commands are these codes, one behind the other. */
    static byte[] image(int pages, Code... commands) {
        ByteArrayOutputStream image = new ByteArrayOutputStream();
        image.write(pages);
        image.write(commands.length);
        int begins = 0;
        for (Code c : commands) {
            image.write(begins >> 8);
            image.write(begins);
            begins += c.size();
        }
        for (Code c : commands) {
            image.writeBytes(c.bytes());
        }
        return image.toByteArray();
    }
}
