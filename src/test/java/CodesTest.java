/** Promise 10, Part III: the codes, their faults and STEPS. */
public final class CodesTest {
    private CodesTest() {
    }

    public static void main(String[] args) {
        reckoning();
        jumps();
        bytes();
        tooFewAndTooMany();
        codesThatThereAreNot();
        steps();
        slices();
        Check.finish();
    }

    private static void due(String what, Code code, String want) {
        Check.due(what, Rig.outcome(code), want);
    }

    private static void two(String what, int code, int x, int y, int want) {
        due(what, new Code().push(x, y).op(code, Code.END), "ends " + want);
    }

    private static void reckoning() {
        due("END of nothing", new Code().end(), "ends 0");
        due("END", new Code().push(1, -2).end(), "ends -2");
        due("PUSH has the lowest byte first", new Code().raw(1, 1, 2, 3, 4, 0), "ends " + 0x04030201);
        due("DUP", new Code().push(7).op(Code.DUP, Code.ADD, Code.END), "ends 14");
        due("DROP", new Code().push(7, 8).op(Code.DROP, Code.END), "ends 7");
        due("SWAP", new Code().push(7, 9).op(Code.SWAP, Code.SUB, Code.END), "ends 2");
        two("ADD", Code.ADD, -1, 2, 1);
        two("ADD", Code.ADD, Integer.MAX_VALUE, 1, Integer.MIN_VALUE);
        two("SUB", Code.SUB, 3, 5, -2);
        two("MUL", Code.MUL, 0x10001, 0x10001, 0x20001);
        two("AND", Code.AND, 12, 10, 8);
        two("OR", Code.OR, 12, 10, 14);
        two("XOR", Code.XOR, 12, 10, 6);
        two("SHL", Code.SHL, 3, 33, 6);
        two("SHL by -1", Code.SHL, 1, -1, Integer.MIN_VALUE);
        two("SHR", Code.SHR, -1, 28, 15);
        two("SHR by 32", Code.SHR, -1, 32, -1);
        two("LESS", Code.LESS, 1, 2, 1);
        two("LESS of the same", Code.LESS, 2, 2, 0);
        two("LESS without sign", Code.LESS, -1, 1, 0);
        two("LESS without sign", Code.LESS, 1, -1, 1);
        two("SAME", Code.SAME, 5, 5, 1);
        two("SAME", Code.SAME, 5, 6, 0);
    }

    private static void jumps() {
        due("JUMP", new Code().jump(Code.JUMP, 9).end(1).end(2), "ends 2");
        due("JZERO of 0", new Code().push(0).jump(Code.JZERO, 14).end(1).end(2), "ends 2");
        due("JZERO of 1", new Code().push(1).jump(Code.JZERO, 14).end(1).end(2), "ends 1");
        due("CALL and RET", new Code().jump(Code.CALL, 4).op(Code.END).push(5).op(Code.RET), "ends 5");
        due("RET without CALL", new Code().op(Code.RET), "fault 5");
        Code calls = new Code();
        for (int i = 0; i < 16; i++) {
            calls.jump(Code.CALL, 3 * i + 3);
        }
        due("sixteen returns", calls.end(4), "ends 4");
        due("a seventeenth", new Code().jump(Code.CALL, 0), "fault 5");
        due("JUMP to the end", new Code().jump(Code.JUMP, 3), "fault 1");
        due("JUMP behind it", new Code().jump(Code.JUMP, 65535), "fault 1");
        due("JZERO that stays", new Code().push(1).jump(Code.JZERO, 65535).end(3), "ends 3");
        due("the end without END", new Code().push(1), "fault 1");
        due("too few ahead of returns", new Code().jump(Code.JZERO, 0), "fault 2");
    }

    private static void bytes() {
        due("STOREW and LOADW", new Code().word(4, 0x81020384).push(4).op(Code.LOADW, Code.END), "ends " + 0x81020384);
        due("the lowest first", new Code().word(4, 0x81020384).push(4).op(Code.LOADB, Code.END), "ends 132");
        due("the highest last", new Code().word(4, 0x81020384).push(7).op(Code.LOADB, Code.END), "ends 129");
        due("STOREB", new Code().push(0x1ff, 9).op(Code.STOREB).push(8).op(Code.LOADW, Code.END), "ends " + 0xff00);
        due("LOADB at the end", new Code().push(255).op(Code.LOADB, Code.END), "ends 0");
        due("LOADB beyond", new Code().push(256).op(Code.LOADB, Code.END), "fault 4");
        due("LOADB of a word above all", new Code().push(-1).op(Code.LOADB, Code.END), "fault 4");
        due("STOREB beyond", new Code().push(0, 256).op(Code.STOREB), "fault 4");
        due("LOADW at the end", new Code().push(252).op(Code.LOADW, Code.END), "ends 0");
        due("LOADW beyond", new Code().push(253).op(Code.LOADW, Code.END), "fault 4");
        due("STOREW beyond", new Code().push(0, 253).op(Code.STOREW, Code.END), "fault 4");
        due("STOREW far beyond", new Code().push(0, Integer.MAX_VALUE).op(Code.STOREW, Code.END), "fault 4");
        Code over = new Code().word(254, 0x01020304).push(254).op(Code.LOADW, Code.END);
        Rig rig = new Rig();
        byte[] image = Code.image(2, over);
        rig.burn(image, 7);
        rig.machine.boot();
        rig.machine.call(1, 22, 0, 0);
        rig.machine.call(1, 9, 0, 0);
        rig.bringIn(image);
        rig.open(0);
        Check.due("a word over two pages that lie apart", rig.invoke(0, 0), "ends " + 0x01020304);
        Rig kept = Rig.with(1, new Code().word(8, 5).end(), new Code(12).push(8).op(Code.LOADW, Code.END));
        Check.due("pages are 0 at first", kept.invoke(0, 1), "ends 0");
        kept.invoke(0, 0);
        Check.due("pages stay from run to run", kept.invoke(0, 1), "ends 5");
    }

    private static void tooFewAndTooMany() {
        int[] needs = {0, 0, 1, 1, 2, 2, 2, 2, 2, 2, 2, 2, 2, 2, 2, 0, 1, 0, 0, 1, 2, 1, 2};
        for (int code = 2; code <= 22; code++) {
            Code c = new Code();
            for (int i = 1; i < needs[code]; i++) {
                c.push(1);
            }
            if (needs[code] > 0) {
                due("code " + code + " with too few", c.raw(code, 0, 0, 0, 0), "fault 2");
            }
        }
        int[] sysNeeds = {1, 1, 1, 2, 2, 1, 2, 3, 4, 4, 2, 2, 0, 3, 0, 2, 0, 0, 2, 0, 5, 3, 3, 3, 4, 1, 2, 0, 0, 0, 0, 3, 3};
        for (int n = 0; n <= 32; n++) {
            Code c = new Code();
            for (int i = 1; i < sysNeeds[n]; i++) {
                c.push(0);
            }
            if (sysNeeds[n] > 0) {
                due("SYS " + n + " with too few", c.sys(n).end(), "fault 2");
            }
        }
        Code full = new Code();
        for (int i = 0; i < 64; i++) {
            full.push(i);
        }
        due("64 words", full.op(Code.END), "ends 63");
        int[] more = {Code.COUNT, Code.CANCELLED, Code.SELF, Code.GROW, Code.BEGIN, Code.COMMIT, Code.UNDO, Code.TIME};
        for (int n : more) {
            Code c = new Code();
            for (int i = 0; i < 64; i++) {
                c.push(i);
            }
            due("SYS " + n + " as the 65th", c.sys(n), "fault 3");
        }
        Code dup = new Code();
        for (int i = 0; i < 64; i++) {
            dup.push(0);
        }
        due("DUP as the 65th", dup.op(Code.DUP, Code.END), "fault 3");
        Code push = new Code();
        for (int i = 0; i < 65; i++) {
            push.push(0);
        }
        due("PUSH as the 65th", push.op(Code.END), "fault 3");
        Code same = new Code();
        for (int i = 0; i < 64; i++) {
            same.push(0);
        }
        due("HAS gives as many as it takes", same.sys(Code.HAS), "fault 4");
    }

    private static void codesThatThereAreNot() {
        due("code 24", new Code().raw(24, 0, 0, 0, 0), "fault 1");
        due("code 255", new Code().raw(255, 0, 0, 0, 0), "fault 1");
        due("SYS 33", new Code().sys(33).end(), "fault 1");
        due("SYS 255", new Code().sys(255).end(), "fault 1");
        due("PUSH that lacks a byte", new Code().raw(1, 0, 0, 0), "fault 1");
        due("JUMP that lacks a byte", new Code().raw(15, 0), "fault 1");
        due("JZERO that lacks a byte, and too few", new Code().raw(16, 0), "fault 1");
        due("SYS that lacks its byte", new Code().raw(23), "fault 1");
    }

    /** A loop of two codes that begins with some codes of its own, ended by fault 6. */
    private static Code turning(int own) {
        Code c = new Code();
        for (int i = 0; i < own; i++) {
            c.push(0).op(Code.DROP);
        }
        return c.jump(Code.JUMP, c.place());
    }

    private static void steps() {
        due("without end", turning(0), "fault 6");
        due("TIME", new Code().push(1, 2).sys(Code.TIME).op(Code.END), "ends 3");
        int[][] extra = {{8, 100}, {9, 100}, {10, 100}, {11, 100}, {26, 100}};
        for (int[] e : extra) {
            int takes = e[0] == 8 || e[0] == 9 ? 4 : 2;
            Code c = new Code();
            for (int i = 0; i < takes; i++) {
                c.push(1);
            }
            due("TIME behind SYS " + e[0], c.sys(e[0]).sys(Code.TIME).op(Code.END), "ends " + (takes + 2 + e[1]));
        }
        due("TIME behind COMMIT", new Code().sys(Code.COMMIT).sys(Code.TIME).op(Code.END), "ends 102");
        int[] bytes = {0, 63, 64, 127, 128, 256};
        for (int n : bytes) {
            due("TIME behind HASH of " + n, new Code().sys(Code.HASH, 0, n, 0).sys(Code.TIME).op(Code.END),
                    "ends " + (5 + n / 64));
            due("TIME behind MAKE of " + n, new Code().sys(Code.MAKE, 0, n).sys(Code.TIME).op(Code.END),
                    "ends " + (4 + n / 64));
            due("TIME behind MAC of " + n, new Code().sys(Code.MAC, 0, n, 0, 0, 0).sys(Code.TIME).op(Code.END),
                    "ends " + (7 + n / 64));
            due("TIME behind MOVE of " + n, new Code().sys(Code.MOVE, 0, n, 0).sys(Code.TIME).op(Code.END),
                    "ends " + (5 + n / 64));
        }
        due("TIME behind SEAL", new Code().sys(Code.SEAL, 0, 130, 0).sys(Code.TIME).op(Code.END), "ends 7");
        due("TIME behind OPEN", new Code().sys(Code.OPEN, 0, 130, 0).sys(Code.TIME).op(Code.END), "ends 7");
        due("TIME behind PUBLIC", new Code().sys(Code.PUBLIC, 0).sys(Code.TIME).op(Code.END), "ends 5003");
        due("TIME behind SIGN", new Code().sys(Code.SIGN, 0, 0, 0).sys(Code.TIME).op(Code.END), "ends 5005");
        due("TIME behind VERIFY", new Code().sys(Code.VERIFY, 0, 0, 0, 0).sys(Code.TIME).op(Code.END), "ends 5006");
        due("TIME behind AGREE", new Code().sys(Code.AGREE, 0, 0, 0).sys(Code.TIME).op(Code.END), "ends 5005");
        Code four = new Code();
        for (int i = 0; i < 4; i++) {
            four.sys(Code.PUBLIC, 0);
        }
        due("four times 5000 and eight", four.op(Code.END), "fault 6");
        due("STEPS more come ahead of fault 4", new Code().sys(Code.PUBLIC, 0).sys(Code.PUBLIC, 0).sys(Code.PUBLIC, 0)
                .sys(Code.PUBLIC, -1), "fault 6");
        due("and behind fault 2", new Code().sys(Code.PUBLIC, 0).sys(Code.PUBLIC, 0).sys(Code.PUBLIC, 0)
                .sys(Code.PUBLIC), "fault 2");
        exactly();
    }

    /** Codes that take so many STEPS, 19000 .. 20000, and leave one word. */
    private static Code spending(int steps) {
        Code c = new Code().sys(Code.PUBLIC, 0).sys(Code.PUBLIC, 0).sys(Code.PUBLIC, 0).push(0);
        int turns = (steps - 3 * 5002) / 7;
        int loop = c.place();
        c.push(1).op(Code.ADD, Code.DUP).push(turns).op(Code.SUB);
        c.jump(Code.JZERO, c.place() + 6).jump(Code.JUMP, loop);
        for (int i = 3 * 5002 + 7 * turns; i < steps; i++) {
            c.jump(Code.JUMP, c.place() + 3);
        }
        return c;
    }

    /** Runs that need just 20000 STEPS, and one more. */
    private static void exactly() {
        due("TIME of so many", spending(19500).sys(Code.TIME).op(Code.END), "ends 19501");
        due("a run of 20000 STEPS", spending(19998).push(3).op(Code.END), "ends 3");
        due("a run of 20001", spending(19999).push(3).op(Code.END), "fault 6");
        due("a strange code then", spending(20000).raw(99), "fault 6");
        due("and a STEP earlier", spending(19999).raw(99), "fault 1");
        due("the code's end then", spending(20000), "fault 6");
        due("and a STEP earlier", spending(19999), "fault 1");
        due("too few when there are STEPS for one", spending(19999).sys(Code.PUT), "fault 2");
        due("too few STEPS for the hundred", spending(19900 - 4).sys(Code.PUT, 0, 0, 0, 1).op(Code.END), "fault 6");
        due("and one more", spending(19899 - 4).sys(Code.PUT, 0, 0, 0, 1).op(Code.DROP, Code.DROP), "fault 6");
        due("and enough", spending(19899 - 4).sys(Code.PUT, 0, 999, 0, 1), "fault 4");
        due("a size above 2048 counts as 2048", spending(20000 - 36).sys(Code.HASH, 0, -1, 0), "fault 4");
        due("with a STEP less", spending(20000 - 35).sys(Code.HASH, 0, -1, 0), "fault 6");
        due("2049 counts so, too", spending(20000 - 36).sys(Code.HASH, 0, 2049 + 64, 0), "fault 4");
    }

    private static void slices() {
        Rig rig = Rig.with(1, new Code().push(1), new Code(5).raw(77), new Code(6).jump(Code.JUMP, 6));
        rig.machine.call(12, 1, 0, 0);
        Check.due("a slice ends ahead of the code's end", rig.invoke(0, 0), "code 9");
        due("the run", rig.resume(0), "fault 1");
        Rig end = Rig.with(1, new Code().push(1));
        end.machine.call(12, 2, 0, 0);
        Check.due("the code's end counts for no slice", end.invoke(0, 0), "fault 1");
        Rig strange = Rig.with(1, new Code().push(1).raw(77));
        strange.machine.call(12, 1, 0, 0);
        Check.due("a slice ends ahead of a strange code", strange.invoke(0, 0), "code 9");
        Check.due("which comes then", strange.resume(0), "fault 1");
        Rig turning = Rig.with(1, turning(0));
        turning.machine.call(12, 20000, 0, 0);
        Check.due("20000 codes, and it yields ahead of fault 6", turning.invoke(0, 0), "code 9");
        Check.due("which comes then", turning.resume(0), "fault 6");
    }

    private static void due(String what, String got, String want) {
        Check.due(what, got, want);
    }
}
