import java.util.Arrays;

/** Promise 10, Part III: the sentences that name an edge of the codes, their faults and STEPS, one test each. */
public final class CodeEdgesTest {
    private static final int BIG = Integer.MAX_VALUE;
    private static final int LOW = Integer.MIN_VALUE;
    /** Words that each code 0 .. 22 takes and gives. */
    private static final int[] TAKES = {0, 0, 1, 1, 2, 2, 2, 2, 2, 2, 2, 2, 2, 2, 2, 0, 1, 0, 0, 1, 2, 1, 2};
    private static final int[] GIVES = {0, 1, 2, 0, 2, 1, 1, 1, 1, 1, 1, 1, 1, 1, 1, 0, 0, 0, 0, 1, 0, 1, 0};
    /** The same of SYS 0 .. 32. */
    private static final int[] SYS_TAKES = {1, 1, 1, 2, 2, 1, 2, 3, 4, 4, 2, 2, 0, 3, 0, 2, 0, 0, 2, 0, 5, 3, 3, 3, 4, 1, 2, 0, 0, 0, 0,
        3, 3};
    private static final int[] SYS_GIVES = {1, 1, 1, 0, 0, 1, 1, 0, 1, 2, 1, 2, 1, 0, 1, 0, 0, 1, 2, 1, 0, 0, 1, 0, 1, 0, 2, 1, 1, 1, 1,
        0, 0};

    private CodeEdgesTest() {
    }

    public static void main(String[] args) {
        stackOfSixtyFour();
        stackIsEmptyAtFirst();
        sixteenReturns();
        returnsAreEmptyAtFirst();
        bytesOfThePages();
        wordsOfThePages();
        eachCodeTakesOneStep();
        codesThatThereAreNot();
        behindTheEnd();
        tooFew();
        tooFewOfSys();
        tooMany();
        toldIsReadFirst();
        faultsInTheirOrder();
        moreThanTwentyThousand();
        stepsFromInvokeOn();
        noBytesAtAll();
        endOfNothing();
        pushTheLowestFirst();
        withoutSign();
        shiftsModulo();
        jumps();
        aPlaceBehindTheEnd();
        strangeCodesTakeAStep();
        strangeCodesCountForASlice();
        sysAboveThirtyTwo();
        stepsMore();
        stepsByBytes();
        stepsAboveTwoThousand();
        stepsAheadOfAllElse();
        stepsAheadOfRights();
        Check.finish();
    }

    private static void due(String what, Code code, String want) {
        Check.due(what, Rig.outcome(code), want);
    }

    /** So many words, the topmost one first in each row. */
    private static Code words(int n) {
        Code c = new Code();
        for (int i = 0; i < n; i++) {
            c.push(0);
        }
        return c;
    }

    /** "A run has a STACK of up to 64 words". */
    private static void stackOfSixtyFour() {
        due("PUSH as the 64th", words(63).push(7).op(Code.END), "ends 7");
        due("PUSH as the 65th", words(64).push(7).op(Code.END), "fault 3");
        due("DUP as the 64th", words(62).push(7).op(Code.DUP, Code.END), "ends 7");
        due("DUP as the 65th", words(63).push(7).op(Code.DUP, Code.END), "fault 3");
        due("SWAP of 64", words(62).push(7, 8).op(Code.SWAP, Code.END), "ends 7");
        due("ADD of 64", words(62).push(7, 8).op(Code.ADD, Code.END), "ends 15");
        due("all of them again", words(64).op(Code.DROP).push(9).op(Code.END), "ends 9");
    }

    /** "(empty at first)": from run to run, and when one is asked. */
    private static void stackIsEmptyAtFirst() {
        Rig rig = Rig.with(1, new Code().push(5, 6, 7).op(Code.END), new Code().end(), new Code().op(Code.DROP));
        Check.due("a run that leaves words", rig.invoke(0, 0), "ends 7");
        Check.due("the next one has none", rig.invoke(0, 1), "ends 0");
        Check.due("so DROP is too much", rig.invoke(0, 2), "fault 2");
    }

    private static Code calls(int n) {
        Code c = new Code();
        for (int i = 0; i < n; i++) {
            c.jump(Code.CALL, 3 * i + 3);
        }
        return c;
    }

    /** "a row of up to 16 returns"; "5 returns too many or too few". */
    private static void sixteenReturns() {
        due("16 CALLs", calls(16).end(3), "ends 3");
        due("17 CALLs", calls(17).end(3), "fault 5");
        due("RET without any", new Code().op(Code.RET), "fault 5");
        due("a RET behind 16 CALLs", calls(15).jump(Code.CALL, 49).op(Code.END).op(Code.RET), "ends 0");
        due("RET once too often", new Code().jump(Code.CALL, 3).op(Code.RET), "fault 5");
    }

    /** The row of returns is a run's own, and empty at first. */
    private static void returnsAreEmptyAtFirst() {
        Code first = calls(16).end(1);
        Rig rig = Rig.with(1, first, new Code().op(Code.RET), new Code().jump(Code.CALL, first.size() + 4).end(4));
        Check.due("sixteen", rig.invoke(0, 0), "ends 1");
        Check.due("sixteen again", rig.invoke(0, 0), "ends 1");
        Check.due("none is left for RET", rig.invoke(0, 1), "fault 5");
        rig.open(0);
        Check.due("and a CALL can be done", rig.invoke(0, 2), "ends 4");
    }

    /** "the APPLET's pages as bytes 0 .. 256 * pages - 1"; "4 an address beyond the pages": LOADB and STOREB. */
    private static void bytesOfThePages() {
        for (int pages = 1; pages <= 4; pages++) {
            int last = 256 * pages - 1;
            for (int a : new int[] {0, last, last + 1, last + 256, 8192, BIG, LOW, -1, -256}) {
                String want = a >= 0 && a <= last ? "ends 254" : "fault 4";
                Code both = new Code().push(0x1fe, a).op(Code.STOREB).push(a).op(Code.LOADB, Code.END);
                Check.due("STOREB and LOADB at " + a + " of " + pages, Rig.with(pages, both).invoke(0, 0), want);
                Code load = new Code().push(a).op(Code.LOADB).op(Code.DROP).end(254);
                Check.due("LOADB at " + a + " of " + pages, Rig.with(pages, load).invoke(0, 0), want);
            }
        }
    }

    /** The same of words of four bytes: LOADW and STOREW. */
    private static void wordsOfThePages() {
        for (int pages = 1; pages <= 4; pages++) {
            int last = 256 * pages - 4;
            for (int a : new int[] {0, 1, last, last + 1, last + 3, last + 4, 8192, BIG, BIG - 3, LOW, -1, -3, -4}) {
                String want = a >= 0 && a <= last ? "ends " + 0x81828384 : "fault 4";
                Code both = new Code().word(a, 0x81828384).push(a).op(Code.LOADW, Code.END);
                Check.due("STOREW and LOADW at " + a + " of " + pages, Rig.with(pages, both).invoke(0, 0), want);
                Code load = new Code().push(a).op(Code.LOADW).op(Code.DROP).end(0x81828384);
                Check.due("LOADW at " + a + " of " + pages, Rig.with(pages, load).invoke(0, 0), want);
            }
        }
        Code around = new Code().push(1, 3).op(Code.STOREB).push(2, 8).op(Code.STOREB).word(4, 0x04030201);
        around.push(0).op(Code.LOADW).push(8).op(Code.LOADW, Code.ADD).push(4).op(Code.LOADB, Code.ADD).push(7).op(Code.LOADB, Code.ADD);
        due("the bytes of a word, and those around it", around.op(Code.END), "ends " + (0x01000000 + 2 + 1 + 4));
    }

    /** "Each code takes one STEP". */
    private static void eachCodeTakesOneStep() {
        for (int code = 2; code <= 22; code++) {
            if (code == Code.RET) {
                continue;
            }
            Code c = words(TAKES[code]);
            int told = code >= Code.JUMP && code <= Code.CALL ? 2 : 0;
            int behind = c.size() + 1 + told;
            if (told > 0) {
                c.jump(code, behind);
            } else {
                c.op(code);
            }
            due("TIME behind code " + code, c.sys(Code.TIME).op(Code.END), "ends " + (TAKES[code] + 2));
        }
        due("TIME behind CALL and RET", new Code().jump(Code.CALL, 6).sys(Code.TIME).op(Code.END).op(Code.RET), "ends 3");
        due("TIME alone", new Code().sys(Code.TIME).op(Code.END), "ends 1");
    }

    /** "1 a code that there is not". */
    private static void codesThatThereAreNot() {
        for (int code = 24; code < 256; code++) {
            due("code " + code, words(5).raw(code, 0, 0, 0, 0).end(), "fault 1");
        }
    }

    /** "or that goes on behind the code's end". */
    private static void behindTheEnd() {
        due("PUSH with no byte", new Code().raw(Code.PUSH), "fault 1");
        due("PUSH with three bytes", new Code().raw(Code.PUSH, 0, 0, 0), "fault 1");
        for (int code : new int[] {Code.JUMP, Code.JZERO, Code.CALL}) {
            due("code " + code + " with no byte", words(1).raw(code), "fault 1");
            due("code " + code + " with one byte", words(1).raw(code, 0), "fault 1");
        }
        due("JUMP with two bytes", new Code().raw(Code.JUMP, 0, 4, 200).end(5), "ends 5");
        due("SYS with no byte", new Code().raw(Code.SYS), "fault 1");
        due("SYS with its byte", new Code().sys(Code.PANIC), "fault 8");
    }

    /** "2 too few on the STACK". */
    private static void tooFew() {
        for (int code = 2; code <= 22; code++) {
            for (int n = 0; n < TAKES[code]; n++) {
                due("code " + code + " with " + n, words(n).raw(code, 0, 0).end(), "fault 2");
            }
        }
    }

    /** The same of SYS. */
    private static void tooFewOfSys() {
        for (int sys = 0; sys <= 32; sys++) {
            for (int n = 0; n < SYS_TAKES[sys]; n++) {
                due("SYS " + sys + " with " + n, words(n).sys(sys).end(), "fault 2");
            }
        }
    }

    /** "3 too many": what a code takes goes ahead of what it gives. */
    private static void tooMany() {
        for (int code = 2; code <= 22; code++) {
            if (code == Code.RET) {
                continue;
            }
            int told = code >= Code.JUMP && code <= Code.CALL ? 2 : 0;
            Code c = words(64);
            if (told > 0) {
                c.jump(code, c.size() + 3);
            } else {
                c.op(code);
            }
            Check.due("code " + code + " behind 64", Rig.outcome(c.end()).equals("fault 3"), GIVES[code] > TAKES[code]);
        }
        for (int sys = 0; sys <= 32; sys++) {
            boolean tooMany = SYS_GIVES[sys] > SYS_TAKES[sys];
            Code c = words(64).sys(sys).op(Code.DROP).end(5);
            Check.due("SYS " + sys + " behind 64", Rig.with(1, c).invoke(0, 0).equals("fault 3"), tooMany);
            Code less = words(63).sys(sys).op(Code.DROP).end(5);
            Check.due("SYS " + sys + " behind 63", Rig.with(1, less).invoke(0, 0).equals("fault 3"), false);
        }
    }

    /** "(What is told with a code is read first, then too few is looked at, then 3 ..". */
    private static void toldIsReadFirst() {
        due("PUSH that lacks a byte behind 64", words(64).raw(Code.PUSH, 0, 0, 0), "fault 1");
        due("JZERO that lacks a byte, of nothing", new Code().raw(Code.JZERO, 0), "fault 1");
        due("CALL that lacks a byte behind 16", calls(16).raw(Code.CALL, 0), "fault 1");
        due("SYS 33 behind 64", words(64).sys(33), "fault 1");
        due("SYS 33 of nothing", new Code().sys(33), "fault 1");
        due("DUP of nothing", new Code().op(Code.DUP), "fault 2");
    }

    /** ".. 4, 5, 7 ..)". */
    private static void faultsInTheirOrder() {
        due("STOREB of one word, beyond: 2 ahead of 4", new Code().push(-1).op(Code.STOREB), "fault 2");
        due("GETBYTE of one word: 2 ahead of 7", new Code().push(-1).sys(Code.GETBYTE), "fault 2");
        Check.due("MAKE beyond without the right: 4 ahead of 7",
                Rig.withRights(3, 1, new Code().sys(Code.MAKE, -1, 1)).invoke(0, 0), "fault 4");
        due("JZERO of nothing to beyond: 2", new Code().jump(Code.JZERO, 60000), "fault 2");
        due("CALL to beyond behind 16: 5", calls(16).jump(Code.CALL, 60000), "fault 5");
        due("CALL to beyond behind 15: 1, when it is come to", calls(15).jump(Code.CALL, 60000), "fault 1");
    }

    /** Codes that take so many STEPS, from 15017 on. */
    private static Code spending(int steps) {
        Code c = new Code().sys(Code.PUBLIC, 0).sys(Code.PUBLIC, 0).sys(Code.PUBLIC, 0).push(0);
        int turns = (steps - 3 * 5002) / 7;
        int loop = c.place();
        c.push(1).op(Code.ADD, Code.DUP).push(turns).op(Code.SUB);
        c.jump(Code.JZERO, c.place() + 6).jump(Code.JUMP, loop);
        for (int i = 3 * 5002 + 7 * turns; i < steps; i++) {
            c.jump(Code.JUMP, c.place() + 3);
        }
        return c;
    }

    /** "6 more than 20000 STEPS .. (a code that would need more is not done, whatever it would be)". */
    private static void moreThanTwentyThousand() {
        due("TIME as the last one", spending(19998).sys(Code.TIME).op(Code.END), "ends 19999");
        due("END as the 20000th", spending(19998).push(7).op(Code.END), "ends 7");
        due("END as the 20001st", spending(19999).push(7).op(Code.END), "fault 6");
        due("PANIC as the 20000th", spending(19999).sys(Code.PANIC), "fault 8");
        due("PANIC as the 20001st", spending(20000).sys(Code.PANIC), "fault 6");
        due("a code that there is not as the 20000th", spending(19999).raw(99), "fault 1");
        due("a code that there is not as the 20001st", spending(20000).raw(99), "fault 6");
        due("one that lacks its bytes as the 20001st", spending(20000).raw(Code.PUSH), "fault 6");
        due("the code's end when 20000 are done", spending(20000), "fault 6");
        due("the code's end when 19999 are done", spending(19999), "fault 1");
        for (int steps = 19997; steps <= 19998; steps++) {
            Rig rig = Rig.with(1, spending(steps).word(100, 9), new Code().push(100).op(Code.LOADW, Code.END));
            Check.due("STOREW as STEP " + (steps + 3), rig.invoke(0, 0), "fault 6");
            rig.open(0);
            Check.due("it is done or not", rig.invoke(0, 1), steps == 19997 ? "ends 9" : "ends 0");
        }
    }

    /** "from INVOKE on": RESUMED or not, and each INVOKE has its own. */
    private static void stepsFromInvokeOn() {
        Code most = spending(19999).op(Code.END);
        Rig rig = Rig.with(1, most);
        for (int i = 0; i < 3; i++) {
            Check.due("a run of 20000", rig.invoke(0, 0).startsWith("ends"), true);
        }
        rig.machine.call(12, 1000, 0, 0);
        String answer = rig.invoke(0, 0);
        int slices = 1;
        for (; answer.equals("code 9") && slices < 30; slices++) {
            answer = rig.resume(0);
        }
        // of the 20000 STEPS 15000 are no codes of their own
        Check.due("slices of 1000 codes", slices, 5);
        Check.due("it ends", answer.startsWith("ends"), true);
        Rig turning = Rig.with(1, new Code().jump(Code.JUMP, 0));
        turning.machine.call(12, 9999, 0, 0);
        Check.due("9999", turning.invoke(0, 0), "code 9");
        Check.due("19998", turning.resume(0), "code 9");
        Check.due("two more", turning.resume(0), "fault 6");
        Rig exact = Rig.with(1, new Code().jump(Code.JUMP, 0));
        exact.machine.call(12, 10000, 0, 0);
        Check.due("10000", exact.invoke(0, 0), "code 9");
        Check.due("20000: it yields ahead of the fault", exact.resume(0), "code 9");
        Check.due("which comes then", exact.resume(0), "fault 6");
    }

    /** "no bytes at all may stand at 0 .. 256 * pages". */
    private static void noBytesAtAll() {
        for (int pages = 1; pages <= 4; pages++) {
            int end = 256 * pages;
            for (int a : new int[] {-1, 0, 1, end - 1, end, end + 1, BIG, LOW}) {
                String want = a >= 0 && a <= end ? "ends 3" : "fault 4";
                String what = " of nothing at " + a + " of " + end;
                Code[] codes = {new Code().sys(Code.HASH, a, 0, 0), new Code().sys(Code.MAKE, a, 0), new Code().sys(Code.MOVE, a, 0, 0),
                    new Code().sys(Code.MOVE, 0, 0, a), new Code().sys(Code.MAC, a, 0, 0, 0, 0), new Code().sys(Code.MAC, 0, 0, a, 0, 0),
                    new Code().sys(Code.PUT, a, 0, 0, 1), new Code().sys(Code.GET, a, 0, 0, 1), new Code().sys(Code.SIGN, a, 0, 0),
                    new Code().sys(Code.VERIFY, a, 0, 0, 0)};
                for (int i = 0; i < codes.length; i++) {
                    Check.due("case " + i + what, Rig.with(pages, codes[i].end(3)).invoke(0, 0), want);
                }
            }
        }
    }

    /** "it ends with x; with 0 if the STACK is empty". */
    private static void endOfNothing() {
        due("END of nothing", new Code().end(), "ends 0");
        due("END of one", new Code().push(6).end(), "ends 6");
        due("END of what was dropped", new Code().push(6).op(Code.DROP, Code.END), "ends 0");
    }

    /** "PUSH w (four bytes, the lowest first)". */
    private static void pushTheLowestFirst() {
        due("PUSH", new Code().raw(Code.PUSH, 0xfe, 0x80, 0x01, 0x7f, Code.END), "ends " + 0x7f0180fe);
        due("PUSH of the highest bit", new Code().raw(Code.PUSH, 0, 0, 0, 0x80, Code.END), "ends " + LOW);
        due("PUSH of all", new Code().raw(Code.PUSH, 255, 255, 255, 255, Code.END), "ends -1");
    }

    /** "words without sign": sums, differences and products wrap around, LESS looks at them without sign. */
    private static void withoutSign() {
        int[][] rows = {{Code.ADD, -1, 1, 0}, {Code.ADD, BIG, BIG, -2}, {Code.ADD, LOW, LOW, 0}, {Code.SUB, 0, 1, -1},
            {Code.SUB, LOW, 1, BIG}, {Code.SUB, 1, LOW, LOW + 1}, {Code.MUL, LOW, 2, 0}, {Code.MUL, -1, -1, 1}, {Code.MUL, BIG, 2, -2},
            {Code.LESS, BIG, LOW, 1}, {Code.LESS, LOW, BIG, 0}, {Code.LESS, -1, -1, 0}, {Code.LESS, -2, -1, 1}, {Code.LESS, 0, -1, 1},
            {Code.LESS, -1, 0, 0}, {Code.LESS, 0, 0, 0}, {Code.SAME, LOW, LOW, 1}, {Code.SAME, 0, LOW, 0}, {Code.AND, -1, LOW, LOW},
            {Code.OR, 1, LOW, LOW + 1}, {Code.XOR, -1, LOW, BIG}};
        for (int[] r : rows) {
            due("code " + r[0] + " of " + r[1] + " and " + r[2], new Code().push(r[1], r[2]).op(r[0], Code.END), "ends " + r[3]);
        }
    }

    /** "SHL, SHR x y -- x by y mod 32". */
    private static void shiftsModulo() {
        int[][] rows = {{Code.SHL, 5, 0, 5}, {Code.SHL, 5, 31, LOW}, {Code.SHL, 5, 32, 5}, {Code.SHL, 5, 33, 10}, {Code.SHL, 5, -32, 5},
            {Code.SHL, 1, -1, LOW}, {Code.SHR, LOW, 0, LOW}, {Code.SHR, LOW, 31, 1}, {Code.SHR, LOW, 32, LOW}, {Code.SHR, LOW, 33, 1 << 30},
            {Code.SHR, -1, -1, 1}, {Code.SHR, -1, 64, -1}, {Code.SHR, -1, 1, BIG}};
        for (int[] r : rows) {
            due("code " + r[0] + " of " + r[1] + " by " + r[2], new Code().push(r[1], r[2]).op(r[0], Code.END), "ends " + r[3]);
        }
    }

    /** "JUMP o (two bytes, the higher one first)": to any place, forth and back, into a code's midst, too. */
    private static void jumps() {
        Code far = new Code().jump(Code.JUMP, 300);
        for (int i = 3; i < 300; i++) {
            far.raw(99);
        }
        due("JUMP to 300", far.end(4), "ends 4");
        due("JUMP into a PUSH's bytes", new Code().jump(Code.JUMP, 4).raw(Code.PUSH, Code.END, 0, 0, 0), "ends 0");
        due("JZERO of 0", new Code().push(0).jump(Code.JZERO, 14).end(1).end(2), "ends 2");
        due("JZERO of the highest bit", new Code().push(LOW).jump(Code.JZERO, 14).end(1).end(2), "ends 1");
        due("JZERO takes its word", new Code().push(9, 0).jump(Code.JZERO, 13).op(Code.END), "ends 9");
        due("JZERO takes its word", new Code().push(9, 1).jump(Code.JZERO, 0).op(Code.END), "ends 9");
        due("the latest return", new Code().jump(Code.CALL, 4).op(Code.END).jump(Code.CALL, 8).op(Code.RET).push(5).op(Code.RET), "ends 5");
    }

    /** "(A place at or behind the code's end is fault 1 when it is come to, and takes no STEP .., nor counts for a SLICE". */
    private static void aPlaceBehindTheEnd() {
        int[] places = {3, 4, 255, 256, 65535};
        for (int place : places) {
            due("JUMP to " + place, new Code().jump(Code.JUMP, place), "fault 1");
            due("CALL to " + place, new Code().jump(Code.CALL, place), "fault 1");
            Rig rig = Rig.with(1, new Code().jump(Code.JUMP, place));
            rig.machine.call(12, 1, 0, 0);
            Check.due("JUMP to " + place + " with a SLICE of 1", rig.invoke(0, 0), "code 9");
            Check.due("RESUME there", rig.resume(0), "fault 1");
            Rig two = Rig.with(1, new Code().jump(Code.JUMP, place));
            two.machine.call(12, 2, 0, 0);
            Check.due("JUMP to " + place + " with a SLICE of 2", two.invoke(0, 0), "fault 1");
        }
        due("RET to the end", new Code().jump(Code.JUMP, 4).op(Code.RET).jump(Code.CALL, 3), "fault 1");
        Check.due("STEPS", asked(new Code().push(1)), "ends 5");
        Check.due("STEPS of a JUMP to the end", asked(new Code().jump(Code.JUMP, 9)), "ends 5");
    }

    /** What TIME tells behind an ASK of a command. */
    private static String asked(Code command) {
        return askedRig(command).invoke(0, 0);
    }

    private static Rig askedRig(Code command) {
        byte[] one = Code.image(1, new Code().sys(Code.ASK, 1, 0).sys(Code.TIME).op(Code.END));
        byte[] two = Code.image(1, command);
        Rig rig = new Rig();
        rig.burn(one, 7);
        rig.burn(two, 7);
        rig.start();
        rig.bringIn(one);
        rig.bringIn(two);
        rig.open(0);
        return rig;
    }

    /** "a code that there is not, or that lacks its bytes, takes one.)": and so does one that has another fault. */
    private static void strangeCodesTakeAStep() {
        Check.due("nothing but END", asked(new Code().end()), "ends 5");
        Check.due("a code that there is not", asked(new Code().raw(99)), "ends 5");
        Check.due("SYS 33", asked(new Code().sys(33)), "ends 5");
        Check.due("PUSH that lacks its bytes", asked(new Code().raw(Code.PUSH)), "ends 5");
        Check.due("SYS that lacks its byte", asked(new Code().raw(Code.SYS)), "ends 5");
        Check.due("too few", asked(new Code().op(Code.DROP)), "ends 5");
        Check.due("too few for a PUT, which takes no STEPS more then", asked(new Code().sys(Code.PUT)), "ends 5");
        Check.due("beyond", asked(new Code().push(256).op(Code.LOADB)), "ends 6");
        Check.due("RET", asked(new Code().op(Code.RET)), "ends 5");
        Check.due("PANIC", asked(new Code().sys(Code.PANIC)), "ends 5");
        Check.due("a HASH beyond has taken its STEPS", asked(new Code().sys(Code.HASH, 0, 640, 0)), "ends 18");
    }

    /** Of all APPLETS for it: a code with a fault counts for the SLICE, the code's end does not. */
    private static void strangeCodesCountForASlice() {
        Rig strange = askedRig(new Code().raw(99));
        strange.machine.call(12, 4, 0, 0);
        Check.due("three and a strange one", strange.invoke(0, 0), "code 9");
        Check.due("then TIME and END", strange.resume(0), "ends 5");
        Rig end = askedRig(new Code().push(1));
        end.machine.call(12, 5, 0, 0);
        Check.due("three, a PUSH, and TIME", end.invoke(0, 0), "code 9");
        Check.due("then END", end.resume(0), "ends 5");
        Rig six = askedRig(new Code().push(1));
        six.machine.call(12, 6, 0, 0);
        Check.due("all six", six.invoke(0, 0), "ends 5");
    }

    /** "SYS n (a byte; above 32: fault 1)". */
    private static void sysAboveThirtyTwo() {
        for (int n = 33; n < 256; n++) {
            due("SYS " + n, words(5).sys(n).end(), "fault 1");
        }
        due("SYS 32", new Code().sys(32, 0, 0, 0).end(4), "ends 4");
    }

    /** "8 to 11, 26 and 28: 100; .. 23, 24, 25, 31: 5000": all others that take no bytes take none more. */
    private static void stepsMore() {
        for (int sys = 0; sys <= 32; sys++) {
            int more = sys >= 8 && sys <= 11 || sys == 26 || sys == 28 ? 100 : sys >= 23 && sys <= 25 || sys == 31 ? 5000 : 0;
            if (sys == Code.PANIC || sys == Code.ASK) {
                continue;
            }
            Code c = new Code();
            for (int i = 0; i < SYS_TAKES[sys]; i++) {
                c.push(sys < 8 ? 0 : sys >= 8 && sys <= 11 ? 1 : 0);
            }
            c.sys(sys).sys(Code.TIME).op(Code.END);
            Rig rig = Rig.with(1, c);
            // PARAMETER 0: values for 0 .. 4, bytes for 5 .. 7
            rig.tell(sys < 5 ? 3 : 6, Rig.BYTES, 1);
            Check.due("TIME behind SYS " + sys, rig.invoke(0, 0), "ends " + (SYS_TAKES[sys] + 2 + more));
        }
        Check.due("ASK takes one", asked(new Code().end()), "ends 5");
    }

    /** The words of SYS 13, 15, 20, 21, 22 or 32 with n bytes. */
    private static Code withBytes(Code c, int sys, int n) {
        c.push(0, n);
        for (int i = 2; i < SYS_TAKES[sys]; i++) {
            c.push(0);
        }
        return c.sys(sys);
    }

    /** "13, 15, 20, 21, 22, 32: one for each whole 64 bytes of n". */
    private static void stepsByBytes() {
        for (int sys : new int[] {13, 15, 20, 21, 22, 32}) {
            for (int n : new int[] {0, 1, 63, 64, 65, 127, 128, 191, 192, 240}) {
                Code c = withBytes(new Code(), sys, n).sys(Code.TIME).op(Code.END);
                due("TIME behind SYS " + sys + " of " + n, c, "ends " + (SYS_TAKES[sys] + 2 + n / 64));
            }
        }
        for (int sys : new int[] {13, 20, 32}) {
            Code c = new Code();
            for (int i = 0; i < 7; i++) {
                c.sys(Code.GROW).op(Code.DROP);
            }
            for (int n : new int[] {1024, 2047, 2048}) {
                Code all = new Code().raw(toInts(c.bytes()));
                withBytes(all, sys, n).sys(Code.TIME).op(Code.END);
                Check.due("TIME behind SYS " + sys + " of " + n, Rig.with(1, all).invoke(0, 0), "ends " + (14 + SYS_TAKES[sys] + 2 + n / 64));
            }
        }
    }

    private static int[] toInts(byte[] bytes) {
        int[] out = new int[bytes.length];
        for (int i = 0; i < out.length; i++) {
            out[i] = bytes[i] & 255;
        }
        return out;
    }

    /** "(n above 2048, as a word without sign, counts as 2048)": 32 STEPS more, and not one more. */
    private static void stepsAboveTwoThousand() {
        for (int sys : new int[] {13, 15, 20, 21, 22, 32}) {
            int own = SYS_TAKES[sys] + 1;
            for (int n : new int[] {2048, 2049, 2111, 2112, 65536, BIG, LOW, -1, -64}) {
                due("SYS " + sys + " of " + n + " with just enough", withBytes(spending(20000 - own - 32), sys, n), "fault 4");
                due("SYS " + sys + " of " + n + " with one too few", withBytes(spending(20000 - own - 31), sys, n), "fault 6");
            }
            due("SYS " + sys + " of 2047 with just enough", withBytes(spending(20000 - own - 31), sys, 2047), "fault 4");
            due("SYS " + sys + " of 2047 with one too few", withBytes(spending(20000 - own - 30), sys, 2047), "fault 6");
        }
    }

    /** "behind faults 2 and 3, ahead of all else (fault 6, if there are not so many left)". */
    private static void stepsAheadOfAllElse() {
        due("PUT of three words with few left: 2", spending(19990).push(1, 1).sys(Code.PUT), "fault 2");
        due("COMMIT behind 64 words with few left: 3", filled(19990), "fault 3");
        due("PUT beyond with few left: 6 ahead of 4", spending(19896).sys(Code.PUT, 0, 999, 0, 1), "fault 6");
        due("PUT beyond with just enough: 4", spending(19895).sys(Code.PUT, 0, 999, 0, 1), "fault 4");
        due("PUBLIC beyond with few left", new Code().sys(Code.PUBLIC, 0).sys(Code.PUBLIC, 0).sys(Code.PUBLIC, 0).sys(Code.PUBLIC, -1),
                "fault 6");
        int[][] rows = {{Code.GET, 4, 100}, {Code.DELETE, 2, 100}, {Code.HAS, 2, 100}, {Code.LIST, 2, 100}};
        for (int[] r : rows) {
            Code enough = spending(20000 - r[1] - 1 - r[2]);
            Code few = spending(20001 - r[1] - 1 - r[2]);
            for (int i = 0; i < r[1]; i++) {
                enough.push(999);
                few.push(999);
            }
            due("SYS " + r[0] + " with just enough", enough.sys(r[0]), "fault 4");
            due("SYS " + r[0] + " with one too few", few.sys(r[0]), "fault 6");
        }
        due("COMMIT and END with just enough", spending(19898).sys(Code.COMMIT).op(Code.END), "ends 7");
        due("COMMIT and END with one too few", spending(19899).sys(Code.COMMIT).op(Code.END), "fault 6");
    }

    /** The same ahead of what is missing in the RIGHTS: code 2 and fault 7. */
    private static void stepsAheadOfRights() {
        int[][] rows = {{Code.PUT, 100, 0, 1, 0, 1}, {Code.GET, 100, 0, 1, 0, 1}, {Code.DELETE, 100, 0, 1}, {Code.HAS, 100, 0, 1},
            {Code.LIST, 100, 0, 0}, {Code.SIGN, 5000, 0, 1, 0}, {Code.PUBLIC, 5000, 0}, {Code.AGREE, 5000, 0, 0, 0}, {Code.MAKE, 3, 0, 192},
            {Code.SEAL, 3, 0, 192, 0}, {Code.OPEN, 3, 0, 192, 0}};
        for (int[] r : rows) {
            int[] words = Arrays.copyOfRange(r, 2, r.length);
            int fits = 20000 - words.length - 1 - r[1];
            boolean told = r[1] == 100;
            String want = !told ? "fault 7" : SYS_GIVES[r[0]] == 2 ? "ends 0" : "ends 2";
            Check.due("SYS " + r[0] + " with just enough", Rig.withRights(0, 1, turning(fits - (told ? 1 : 0)).sys(r[0], words).op(Code.END))
                    .invoke(0, 0), want);
            Check.due("SYS " + r[0] + " with one too few", Rig.withRights(0, 1, turning(fits + 1).sys(r[0], words).op(Code.END)).invoke(0, 0),
                    "fault 6");
        }
    }

    /** Codes that take so many STEPS, and need no RIGHT. */
    private static Code turning(int steps) {
        Code c = new Code().push(0);
        int loop = c.place();
        c.push(1).op(Code.ADD, Code.DUP).push(steps / 7).op(Code.SUB);
        c.jump(Code.JZERO, c.place() + 6).jump(Code.JUMP, loop);
        for (int i = 0; i < steps % 7; i++) {
            c.jump(Code.JUMP, c.place() + 3);
        }
        return c;
    }

    private static Code filled(int steps) {
        Code c = spending(steps - 63);
        for (int i = 0; i < 63; i++) {
            c.push(0);
        }
        return c.sys(Code.COMMIT);
    }
}
