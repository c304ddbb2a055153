import java.util.Arrays;

/** Promise 10, Part III: the SYS of parameters, of asking others, of pages and of bytes. */
public final class SysTest {
    private SysTest() {
    }

    public static void main(String[] args) {
        values();
        parameterBytes();
        ask();
        askFaults();
        askChain();
        askAndSlices();
        grow();
        rights();
        hashMacMove();
        bytesBehind();
        pagesApart();
        rangesOfBytes();
        Check.finish();
    }

    private static String withParameters(Code code, int... words) {
        Rig rig = Rig.with(1, code);
        rig.tell(words);
        return rig.invoke(0, 0);
    }

    private static void values() {
        for (int sort = 0; sort <= 6; sort++) {
            int[] words = {0, 0, 0, sort, 100, 7};
            boolean isValue = sort >= 1 && sort <= 3;
            String what = " of sort " + sort;
            Check.due("SORT" + what, withParameters(new Code().sys(Code.SORT, 1).op(Code.END), words), "ends " + sort);
            Check.due("FIRST" + what, withParameters(new Code().sys(Code.FIRST, 1).op(Code.END), words),
                    !isValue ? "fault 7" : sort == 2 ? "ends 0" : "ends 100");
            Check.due("SECOND" + what, withParameters(new Code().sys(Code.SECOND, 1).op(Code.END), words),
                    !isValue ? "fault 7" : sort == 2 ? "ends 0" : "ends 7");
            Check.due("SETFIRST" + what,
                    withParameters(new Code().sys(Code.SETFIRST, 55, 1).sys(Code.FIRST, 1).op(Code.END), words),
                    sort == 2 || sort == 3 ? "ends 55" : "fault 7");
            Check.due("SETSECOND" + what,
                    withParameters(new Code().sys(Code.SETSECOND, 56, 1).sys(Code.SECOND, 1).op(Code.END), words),
                    sort == 2 || sort == 3 ? "ends 56" : "fault 7");
            Check.due("SIZE" + what, withParameters(new Code().sys(Code.SIZE, 1).op(Code.END), words),
                    sort >= 4 ? "ends 7" : "fault 7");
            Check.due("GETBYTE" + what, withParameters(new Code().sys(Code.GETBYTE, 0, 1).op(Code.END), words),
                    sort >= 4 ? "ends 0" : "fault 7");
            Check.due("PUTBYTE" + what, withParameters(new Code().sys(Code.PUTBYTE, 300, 6, 1).sys(Code.GETBYTE, 6, 1)
                    .op(Code.END), words), sort >= 5 ? "ends 44" : "fault 7");
        }
        for (int i : new int[] {-1, 4, Integer.MAX_VALUE, Integer.MIN_VALUE}) {
            for (int n = 0; n <= 7; n++) {
                Code c = n == 7 ? new Code().push(0, 0, i) : n == 3 || n == 4 || n == 6 ? new Code().push(0, i)
                        : new Code().push(i);
                Check.due("SYS " + n + " of parameter " + i, withParameters(c.sys(n).op(Code.END)), "fault 7");
            }
        }
    }

    private static void parameterBytes() {
        Rig rig = Rig.with(1, new Code().sys(Code.GETBYTE, 2, 0).op(Code.END));
        rig.store(Rig.BYTES, new byte[] {1, 2, (byte) 200, 4});
        for (int sort = 4; sort <= 6; sort++) {
            rig.tell(sort, Rig.BYTES, 3);
            Check.due("byte 2 of sort " + sort, rig.invoke(0, 0), sort == 5 ? "ends 0" : "ends 200");
            rig.store(Rig.BYTES, new byte[] {1, 2, (byte) 200, 4});
        }
        rig.tell(4, Rig.BYTES, 2);
        Check.due("byte 2 of 2", rig.invoke(0, 0), "fault 7");
        Code last = new Code().sys(Code.GETBYTE, 255, 0).op(Code.END);
        Check.due("byte 255 of 256", withParameters(last, 4, 0, 256), "ends 0");
        Check.due("byte 255 of 255", withParameters(last, 4, 0, 255), "fault 7");
        Check.due("a byte above all", withParameters(new Code().sys(Code.GETBYTE, -1, 0).op(Code.END), 6, 0, 256), "fault 7");
        Check.due("PUTBYTE beyond", withParameters(new Code().sys(Code.PUTBYTE, 1, 3, 0).op(Code.END), 6, 0, 3), "fault 7");
    }

    /** Applets 0 and 1, the first one's command 0 being asks, the second one's commands asked. */
    private static Rig pair(int rights, Code asks, Code... asked) {
        Rig rig = new Rig();
        byte[] one = Code.image(1, asks);
        byte[] two = Code.image(1, asked);
        rig.burn(one, rights);
        rig.burn(two, 7);
        rig.start();
        rig.bringIn(one);
        rig.bringIn(two);
        rig.open(0);
        rig.open(1);
        return rig;
    }

    private static Code asks(int x, int y) {
        return new Code().sys(Code.ASK, x, y).push(1000).op(Code.MUL, Code.ADD, Code.END);
    }

    private static void ask() {
        Code self = new Code().sys(Code.SELF).op(Code.END);
        Check.due("ASK", pair(7, asks(1, 0), self).invoke(0, 0), "ends 1000");
        Check.due("ASK without the right 2", pair(5, asks(1, 0), self).invoke(0, 0), "ends 2");
        Check.due("without the right, ahead of none", pair(5, asks(9, 0), self).invoke(0, 0), "ends 2");
        Check.due("with the right 2 alone", pair(2, asks(1, 0), self).invoke(0, 0), "ends 1000");
        int[][] none = {{2, 0}, {8, 0}, {-1, 0}, {1, 1}, {1, -1}, {1, 8}, {Integer.MIN_VALUE, 0}, {0, 1}};
        for (int[] n : none) {
            Check.due("ASK " + n[0] + " " + n[1], pair(7, asks(n[0], n[1]), self).invoke(0, 0), "ends 3");
        }
        Check.due("ASK of oneself", pair(7, asks(0, 0), self).invoke(0, 0), "ends 8");
        Code sums = new Code().sys(Code.FIRST, 0).push(5).op(Code.ADD).push(0).sys(Code.SETFIRST).end(1);
        Rig rig = pair(7, asks(1, 0), sums);
        rig.tell(3, 37, 0);
        Check.due("the asked one has the same parameters", rig.invoke(0, 0), "ends 1000");
        Check.due("and sets them", rig.word(Rig.TOLD + 4), 42);
        Rig own = pair(7, new Code().push(9, 8).sys(Code.ASK, 1, 0).op(Code.ADD, Code.ADD, Code.END), new Code().end());
        Check.due("an own stack, empty at first", own.invoke(0, 0), "ends 8");
        Rig time = pair(7, new Code().sys(Code.ASK, 1, 0).sys(Code.TIME).op(Code.END), new Code().push(1, 2).op(Code.END));
        Check.due("STEPS count on", time.invoke(0, 0), "ends 7");
        Rig cancelled = pair(7, asks(1, 0), new Code().sys(Code.CANCELLED).op(Code.END));
        cancelled.machine.call(8, 0, 0, 0);
        Check.due("CANCELLED is of the session", cancelled.invoke(0, 0), "ends 1000");
        Check.due("the other session is not", cancelled.invoke(1, 0), "ends 0");
    }

    private static void askFaults() {
        Code[] faults = {
            new Code().raw(99), new Code().op(Code.DROP), new Code().push(0).jump(Code.JUMP, 0), new Code().push(256).op(Code.LOADB),
            new Code().op(Code.RET), null, new Code().sys(Code.SORT, 9), new Code().sys(Code.PANIC)
        };
        for (int f = 1; f <= 8; f++) {
            if (f != 6) {
                Rig rig = pair(7, asks(1, 0), faults[f - 1]);
                Check.due("what is asked has fault " + f, rig.invoke(0, 0), "ends " + (1000 * f + 5));
                Check.due("the asker's session goes on", rig.invoke(0, 0), "ends " + (1000 * f + 5));
            }
        }
        Rig rig = pair(7, asks(1, 0), new Code().word(0, 7).jump(Code.JUMP, 11), new Code(14).push(0).op(Code.LOADW, Code.END));
        Check.due("fault 6 is the asker's, too", rig.invoke(0, 0), "fault 6");
        Check.due("both run no more", rig.invoke(1, 1), "ends 7");
        Check.due("the asker's session has ended", rig.invoke(0, 0), "code 3");
    }

    /** Applet i asks i + 1; the fifth is not asked any more, as four run. */
    private static void askChain() {
        Rig rig = new Rig();
        byte[][] images = new byte[6][];
        for (int i = 0; i < 6; i++) {
            images[i] = Code.image(1, new Code().sys(Code.ASK, i + 1, 0).op(Code.SWAP).push(10).op(Code.MUL, Code.ADD)
                    .push(1).op(Code.ADD).push(i).op(Code.DROP, Code.END));
            rig.burn(images[i], 7);
        }
        rig.start();
        for (byte[] image : images) {
            rig.bringIn(image);
        }
        rig.open(0);
        rig.open(4);
        Check.due("four run", rig.invoke(0, 0), "ends 84");
        Check.due("from the fifth on there are two, and none behind", rig.invoke(1, 0), "ends 32");

        Rig turn = new Rig();
        byte[] a = Code.image(1, asks(1, 0));
        byte[] b = Code.image(1, asks(0, 0));
        turn.burn(a, 7);
        turn.burn(b, 7);
        turn.start();
        turn.bringIn(a);
        turn.bringIn(b);
        turn.open(0);
        Check.due("one that runs already is busy", turn.invoke(0, 0), "ends 8000");
    }

    private static void askAndSlices() {
        Rig rig = pair(7, asks(1, 0), new Code().push(1, 2).op(Code.END));
        rig.machine.call(12, 1, 0, 0);
        Check.due("slices of one", rig.invoke(0, 0), "code 9");
        for (int i = 0; i < 8; i++) {
            Check.due("slice " + i, rig.resume(0), "code 9");
        }
        Check.due("the last slice", rig.resume(0), "ends 2000");
        Rig held = pair(7, asks(1, 0), new Code().push(1, 2).op(Code.END));
        held.machine.call(12, 4, 0, 0);
        Check.due("in the midst of what was asked", held.invoke(0, 0), "code 9");
        Check.due("which is busy for its own session", held.invoke(1, 0), "code 8");
        held.machine.call(12, 0, 0, 0);
        Check.due("it goes on, for as long as the slice is then", held.resume(0), "ends 2000");
        Check.due("and is free again", held.invoke(1, 0), "ends 2");
        Rig fault = pair(7, asks(1, 0), new Code().push(1));
        fault.machine.call(12, 4, 0, 0);
        Check.due("a slice ends ahead of a fault of what was asked", fault.invoke(0, 0), "code 9");
        Check.due("the fault counts for no slice", fault.resume(0), "ends 1005");
    }

    private static void grow() {
        Code c = new Code().sys(Code.GROW).op(Code.END);
        Code touch = new Code(c.size()).sys(Code.FIRST, 0).op(Code.LOADB, Code.END);
        Rig rig = Rig.with(2, c, touch);
        rig.tell(1, 512, 0);
        Check.due("beyond two pages", rig.invoke(0, 1), "fault 4");
        rig.open(0);
        Check.due("GROW", rig.invoke(0, 0), "ends 0");
        Check.due("now it is there", rig.invoke(0, 1), "ends 0");
        rig.tell(1, 768, 0);
        Check.due("and no more", rig.invoke(0, 1), "fault 4");
        rig.open(0);
        for (int i = 4; i <= 8; i++) {
            Check.due("GROW to " + i, rig.invoke(0, 0), "ends 0");
        }
        rig.machine.call(1, 12, 0, 0);
        Check.due("GROW to 9, though a page is free", rig.invoke(0, 0), "ends 4");
        Check.due("which stays so", rig.machine.call(2, 12, 0, 0), 0);
        Rig none = new Rig();
        byte[] image = Code.image(1, c);
        none.burn(image, 7);
        none.machine.boot();
        none.machine.call(1, 20, 0, 0);
        none.bringIn(image);
        none.open(0);
        Check.due("GROW without a free page", none.invoke(0, 0), "ends 4");
        none.machine.call(1, 9, 0, 0);
        none.machine.call(1, 22, 0, 0);
        Check.due("GROW with two", none.invoke(0, 0), "ends 0");
        Check.due("the lowest is taken", none.machine.call(2, 9, 0, 0), 8);
        Check.due("the other is free", none.machine.call(2, 22, 0, 0), 0);
    }

    private static void rights() {
        Code[] one = {
            new Code().sys(Code.PUT, 0, 1, 0, 1), new Code().sys(Code.GET, 0, 1, 0, 1).op(Code.DROP),
            new Code().sys(Code.DELETE, 0, 1), new Code().sys(Code.HAS, 0, 1).op(Code.DROP),
            new Code().sys(Code.LIST, 0, 0).op(Code.DROP), new Code().sys(Code.BEGIN)
        };
        for (int i = 0; i < one.length; i++) {
            Check.due("without the right 1, case " + i, Rig.withRights(6, 1, one[i].op(Code.END)).invoke(0, 0), "ends 2");
        }
        int[][] twos = {{Code.GET, 0, 1, 0, 1}, {Code.HAS, 0, 1}, {Code.LIST, 0, 0}};
        for (int[] t : twos) {
            Code c = new Code().push(Arrays.copyOfRange(t, 1, t.length)).sys(t[0]).op(Code.END);
            Check.due("what SYS " + t[0] + " tells beside it", Rig.withRights(6, 1, c).invoke(0, 0), "ends 0");
        }
        Code[] beyond = {
            new Code().sys(Code.PUT, 0, 513, 0, 1), new Code().sys(Code.GET, 0, 1, 0, 17), new Code().sys(Code.DELETE, 0, 0),
            new Code().sys(Code.HAS, 256, 1), new Code().sys(Code.LIST, 0, 241)
        };
        for (int i = 0; i < beyond.length; i++) {
            Check.due("fault 4 comes ahead of it, case " + i, Rig.withRights(0, 1, beyond[i].op(Code.END)).invoke(0, 0), "fault 4");
        }
        Code[] four = {
            new Code().sys(Code.MAKE, 0, 1), new Code().sys(Code.SEAL, 0, 1, 0), new Code().sys(Code.OPEN, 0, 1, 0),
            new Code().sys(Code.SIGN, 0, 1, 0), new Code().sys(Code.PUBLIC, 0), new Code().sys(Code.AGREE, 0, 0, 0)
        };
        for (int i = 0; i < four.length; i++) {
            Check.due("without the right 4, case " + i, Rig.withRights(3, 1, four[i].op(Code.END)).invoke(0, 0), "fault 7");
        }
        Code[] far = {
            new Code().sys(Code.MAKE, 0, 257), new Code().sys(Code.SEAL, 0, 241, 0), new Code().sys(Code.OPEN, 0, 1, 245),
            new Code().sys(Code.SIGN, 0, 1, 193), new Code().sys(Code.PUBLIC, 225), new Code().sys(Code.AGREE, 0, 225, 0)
        };
        for (int i = 0; i < far.length; i++) {
            Check.due("fault 4 comes ahead of it, case " + i, Rig.withRights(3, 1, far[i].op(Code.END)).invoke(0, 0), "fault 4");
        }
        Check.due("HASH needs none", Rig.withRights(0, 1, new Code().sys(Code.HASH, 0, 1, 0).end(1)).invoke(0, 0), "ends 1");
        Check.due("MAC needs none", Rig.withRights(0, 1, new Code().sys(Code.MAC, 0, 1, 0, 1, 0).end(1)).invoke(0, 0), "ends 1");
        Check.due("VERIFY needs none", Rig.withRights(0, 1, new Code().sys(Code.VERIFY, 0, 1, 0, 1).op(Code.END)).invoke(0, 0), "ends 0");
        Check.due("COMMIT needs none", Rig.withRights(0, 1, new Code().sys(Code.COMMIT).op(Code.END)).invoke(0, 0), "ends 7");
        Check.due("UNDO needs none", Rig.withRights(0, 1, new Code().sys(Code.UNDO).op(Code.END)).invoke(0, 0), "ends 7");
        Check.due("COUNT", Rig.withRights(0, 1, new Code().sys(Code.COUNT).op(Code.END)).invoke(0, 0), "ends 0");
    }

    private static void hashMacMove() {
        byte[] text = Rig.rows(200, 31);
        Code c = new Code().takeIn(0, 200, 0).sys(Code.HASH, 3, 130, 100).giveOut(100, 32, 1).end();
        Rig rig = Rig.with(2, c);
        rig.store(Rig.BYTES, text);
        rig.tell(4, Rig.BYTES, 200, 5, Rig.BYTES + 256, 32);
        Check.due("HASH", rig.invoke(0, 0), "ends 0");
        Check.due("its bytes, over what was hashed", rig.memory(Rig.BYTES + 256, 32), Model.sha(Arrays.copyOfRange(text, 3, 133)));
        int[][] macs = {{0, 0}, {10, 0}, {10, 64}, {200, 32}, {64, 1}};
        for (int[] m : macs) {
            Code mac = new Code().takeIn(0, 200, 256).sys(Code.MAC, 256, m[0], 300, m[1], 300).giveOut(300, 32, 1).end();
            Rig other = Rig.with(2, mac);
            other.store(Rig.BYTES, text);
            other.tell(4, Rig.BYTES, 200, 5, Rig.BYTES + 256, 32);
            Check.due("MAC", other.invoke(0, 0), "ends 0");
            Check.due("MAC of " + m[0] + " with " + m[1], other.memory(Rig.BYTES + 256, 32),
                    Model.mac(Arrays.copyOfRange(text, 44, 44 + m[1]), Arrays.copyOf(text, m[0])));
        }
        for (int to : new int[] {260, 340, 520}) {
            Code move = new Code().takeIn(0, 200, 300).sys(Code.MOVE, 300, 200, to).giveOut(to, 200, 1).end();
            Rig moved = Rig.with(3, move);
            moved.store(Rig.BYTES, text);
            moved.tell(4, Rig.BYTES, 200, 5, Rig.BYTES + 256, 200);
            Check.due("MOVE", moved.invoke(0, 0), "ends 0");
            Check.due("MOVE to " + to, moved.memory(Rig.BYTES + 256, 200), text);
        }
    }

    /** What comes to a place leaves the bytes behind it as they are. */
    private static void bytesBehind() {
        int[][] rows = {{Code.HASH, 0, 1, 96, 32}, {Code.MAC, 0, 1, 0, 64, 96, 32}, {Code.MOVE, 0, 7, 96, 7}, {Code.SIGN, 0, 1, 96, 64},
            {Code.PUBLIC, 96, 32}, {Code.AGREE, 0, 0, 96, 32}, {Code.SEAL, 96, 5, 0, 21}, {Code.MAKE, 96, 9, 9}};
        for (int[] r : rows) {
            int behind = 96 + r[r.length - 1];
            Code c = new Code();
            for (int i = 0; i < 72; i += 4) {
                c.word(i, 0x01010101 * (i + 1));
            }
            c.word(behind, 0x5a5a5a5a).word(92, 0x3c3c3c3c).push(Arrays.copyOfRange(r, 1, r.length - 1)).sys(r[0]);
            c.push(behind).op(Code.LOADW).push(92).op(Code.LOADW, Code.XOR, Code.END);
            Check.due("the bytes around what SYS " + r[0] + " gives", Rig.outcome(c), "ends " + (0x5a5a5a5a ^ 0x3c3c3c3c));
        }
    }

    /** Bytes over pages that lie apart in MEMORY. */
    private static void pagesApart() {
        byte[] text = Rig.rows(140, 31);
        Code c = new Code().takeIn(0, 140, 100);
        c.sys(Code.MOVE, 100, 140, 350).sys(Code.MOVE, 100, 400, 301).sys(Code.HASH, 99, 640, 700).giveOut(700, 32, 1).end();
        Rig rig = new Rig();
        byte[] image = Code.image(3, c);
        rig.burn(image, 7);
        rig.machine.boot();
        for (int page : new int[] {20, 10, 15}) {
            rig.machine.call(1, page, 0, 0);
        }
        rig.bringIn(image);
        rig.open(0);
        rig.store(Rig.BYTES, text);
        rig.tell(4, Rig.BYTES, 140, 5, Rig.BYTES + 256, 32);
        byte[] all = new byte[768];
        System.arraycopy(text, 0, all, 100, 140);
        System.arraycopy(all.clone(), 100, all, 350, 140);
        System.arraycopy(all.clone(), 100, all, 301, 400);
        Check.due("MOVE and HASH over pages that lie apart", rig.invoke(0, 0), "ends 0");
        Check.due("the digest", rig.memory(Rig.BYTES + 256, 32), Model.sha(Arrays.copyOfRange(all, 99, 739)));
    }

    private static void rangesOfBytes() {
        int[][] hashes = {{256, 0, 224, 1}, {257, 0, 0, 0}, {0, 256, 0, 1}, {1, 256, 0, 0}, {0, 257, 0, 0}, {0, 0, 225, 0},
            {-1, 0, 0, 0}, {0, -1, 0, 0}, {-1, 1, 0, 0}, {0, 0, -1, 0}, {Integer.MIN_VALUE, 0, 0, 0}};
        for (int[] h : hashes) {
            Check.due("HASH " + h[0] + " " + h[1] + " " + h[2],
                    Rig.outcome(new Code().sys(Code.HASH, h[0], h[1], h[2]).end(1)), h[3] == 1 ? "ends 1" : "fault 4");
        }
        int[][] moves = {{256, 0, 256, 1}, {0, 256, 0, 1}, {0, 1, 256, 0}, {0, 2, 255, 0}, {255, 1, 255, 1}, {0, -1, 0, 0},
            {0, 0, 257, 0}, {0, 2049, 0, 0}};
        for (int[] m : moves) {
            Check.due("MOVE " + m[0] + " " + m[1] + " " + m[2],
                    Rig.outcome(new Code().sys(Code.MOVE, m[0], m[1], m[2]).end(1)), m[3] == 1 ? "ends 1" : "fault 4");
        }
        int[][] macs = {{0, 0, 256, 0, 0, 1}, {0, 0, 0, 65, 0, 0}, {0, 0, 0, -1, 0, 0}, {0, 0, 193, 64, 0, 0}, {0, 0, 192, 64, 0, 1},
            {0, 0, 0, 0, 225, 0}, {0, 257, 0, 0, 0, 0}, {0, 0, 257, 0, 0, 0}};
        for (int[] m : macs) {
            Check.due("MAC " + Arrays.toString(m), Rig.outcome(new Code().sys(Code.MAC, m[0], m[1], m[2], m[3], m[4]).end(1)),
                    m[5] == 1 ? "ends 1" : "fault 4");
        }
        int[][] puts = {{0, 0, 0, 1, 1}, {256, 0, 0, 1, 1}, {257, 0, 0, 1, 0}, {0, 513, 0, 1, 0}, {0, -1, 0, 1, 0}, {0, 1, 0, 0, 0},
            {0, 1, 0, 17, 0}, {0, 1, 240, 16, 1}, {0, 1, 241, 16, 0}, {0, 1, 0, -1, 0}, {1, 256, 0, 1, 0}};
        for (int[] p : puts) {
            String want = p[4] == 1 ? "ends 1" : "fault 4";
            Check.due("PUT " + Arrays.toString(p), Rig.outcome(new Code().sys(Code.PUT, p[0], p[1], p[2], p[3]).end(1)), want);
            Check.due("GET " + Arrays.toString(p), Rig.outcome(new Code().sys(Code.GET, p[0], p[1], p[2], p[3]).end(1)), want);
        }
        int[][] names = {{0, 1, 1}, {240, 16, 1}, {241, 16, 0}, {255, 1, 1}, {256, 1, 0}, {0, 0, 0}, {0, 17, 0}, {-1, 1, 0}, {0, -1, 0}};
        for (int[] n : names) {
            String want = n[2] == 1 ? "ends 1" : "fault 4";
            Check.due("DELETE " + Arrays.toString(n), Rig.outcome(new Code().sys(Code.DELETE, n[0], n[1]).end(1)), want);
            Check.due("HAS " + Arrays.toString(n), Rig.outcome(new Code().sys(Code.HAS, n[0], n[1]).end(1)), want);
        }
        int[][] lists = {{0, 1}, {240, 1}, {241, 0}, {-1, 0}, {Integer.MAX_VALUE, 0}};
        for (int[] l : lists) {
            Check.due("LIST to " + l[0], Rig.outcome(new Code().sys(Code.LIST, 0, l[0]).end(1)), l[1] == 1 ? "ends 1" : "fault 4");
        }
    }
}
