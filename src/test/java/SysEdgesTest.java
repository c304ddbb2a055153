import java.util.Arrays;

/** Promise 10, Part III: the sentences that name an edge of a SYS other than those of objects, one test each. */
public final class SysEdgesTest {
    private static final int BIG = Integer.MAX_VALUE;
    private static final int LOW = Integer.MIN_VALUE;
    private static final byte[] KEY = Rig.rows(32, 201);

    private SysEdgesTest() {
    }

    public static void main(String[] args) {
        parametersZeroToThree();
        belowB();
        sortsThatAreTold();
        atFirstAndSince();
        putOneByte();
        rightsAsBits();
        sizesOfObjects();
        listPlaces();
        cancelled();
        hashPlaces();
        hashOverItself();
        countOfTheCell();
        makeSizes();
        makesThatAreDone();
        makeBehindOthers();
        panic();
        self();
        askNotIn();
        askRunsAlready();
        fourRun();
        askTheSameParameters();
        askOwnStack();
        askFaults();
        askFaultSix();
        askFaultSixWithStepsLeft();
        growAtMostEight();
        growLowestFree();
        macSizes();
        sealSizes();
        openRightAndWrong();
        signSizes();
        verifySizes();
        publicPlaces();
        agreePlaces();
        movePlaces();
        moveAsTheyAre();
        pagesThatLieApart();
        rowsOverTwoPages();
        rowsOverFourPages();
        timeOfThisOne();
        Check.finish();
    }

    private static void due(String what, Code code, String want) {
        Check.due(what, Rig.outcome(code), want);
    }

    private static String told(Code code, int... words) {
        Rig rig = Rig.with(1, code);
        rig.tell(words);
        return rig.invoke(0, 0);
    }

    /** Applets 0 .. n - 1 that are in, with a session of their own each. */
    private static Rig several(int rights, Code... commands) {
        Rig rig = new Rig();
        byte[][] images = new byte[commands.length][];
        for (int i = 0; i < commands.length; i++) {
            images[i] = Code.image(1, commands[i]);
            rig.burn(images[i], i == 0 ? rights : 7);
        }
        rig.start();
        for (int i = 0; i < commands.length; i++) {
            rig.bringIn(images[i]);
            rig.open(i);
        }
        return rig;
    }

    /** Ends with 1000 times the code of an ASK and what it tells. */
    private static Code asks(int x, int y) {
        return new Code().sys(Code.ASK, x, y).op(Code.SWAP).push(1000).op(Code.MUL, Code.ADD, Code.END);
    }

    /** The words of SYS 0 .. 7 for byte k of PARAMETER i. */
    private static Code parameter(int sys, int k, int i) {
        Code c = new Code();
        if (sys == Code.SETFIRST || sys == Code.SETSECOND || sys == Code.PUTBYTE) {
            c.push(5);
        }
        if (sys == Code.GETBYTE || sys == Code.PUTBYTE) {
            c.push(k);
        }
        return c.push(i).sys(sys).end(3);
    }

    /** "(i 0 .. 3 ..: otherwise fault 7.)". */
    private static void parametersZeroToThree() {
        for (int sys = 0; sys <= 7; sys++) {
            int sort = sys < 5 ? 3 : 6;
            for (int i : new int[] {LOW, -1, 0, 1, 2, 3, 4, 255, 256, BIG}) {
                int[] words = {sort, 0, 1, sort, 0, 1, sort, 0, 1, sort, 0, 1};
                Check.due("SYS " + sys + " of PARAMETER " + i, told(parameter(sys, 0, i), words), i >= 0 && i <= 3 ? "ends 3" : "fault 7");
            }
        }
    }

    /** "k below b". */
    private static void belowB() {
        for (int b : new int[] {0, 1, 2, 255, 256}) {
            for (int k : new int[] {LOW, -1, 0, 1, 2, 254, 255, 256, BIG}) {
                String want = k >= 0 && k < b ? "ends 3" : "fault 7";
                for (int sort = 4; sort <= 6; sort++) {
                    Check.due("GETBYTE " + k + " of " + b + " of SORT " + sort, told(parameter(Code.GETBYTE, k, 2),
                            0, 0, 0, 0, 0, 0, sort, Rig.BYTES, b), want);
                    Check.due("PUTBYTE " + k + " of " + b + " of SORT " + sort, told(parameter(Code.PUTBYTE, k, 2),
                            0, 0, 0, 0, 0, 0, sort, Rig.BYTES, b), sort == 4 ? "fault 7" : want);
                }
            }
        }
    }

    /** "the sort one of those told". */
    private static void sortsThatAreTold() {
        String[] sorts = {"0123456", "123", "123", "23", "23", "456", "456", "56"};
        for (int sys = 0; sys <= 7; sys++) {
            for (int sort = 0; sort <= 6; sort++) {
                Check.due("SYS " + sys + " of SORT " + sort, told(parameter(sys, 0, 3), 0, 0, 0, 0, 0, 0, 0, 0, 0, sort, Rig.BYTES, 7),
                        sorts[sys].indexOf('0' + sort) >= 0 ? "ends 3" : "fault 7");
            }
        }
    }

    /** "its value (of 1, 3; of 2 0 at first; what was put since)"; "of 5 0 at first; what was put since". */
    private static void atFirstAndSince() {
        for (int sort = 1; sort <= 3; sort++) {
            Check.due("FIRST of SORT " + sort, told(new Code().sys(Code.FIRST, 1).op(Code.END), 0, 0, 0, sort, -7, LOW),
                    sort == 2 ? "ends 0" : "ends -7");
            Check.due("SECOND of SORT " + sort, told(new Code().sys(Code.SECOND, 1).op(Code.END), 0, 0, 0, sort, -7, LOW),
                    sort == 2 ? "ends 0" : "ends " + LOW);
        }
        Code puts = new Code().push(5, 1).sys(Code.SETFIRST).push(6, 1).sys(Code.SETSECOND).sys(Code.FIRST, 1).sys(Code.SECOND, 1);
        Check.due("what was put", told(puts.push(10).op(Code.MUL, Code.ADD, Code.END), 0, 0, 0, 2, 1, 1), "ends 65");
        Rig rig = Rig.with(1, new Code().sys(Code.GETBYTE, 1, 0).op(Code.END), new Code().push(200, 1, 0).sys(Code.PUTBYTE)
                .sys(Code.GETBYTE, 1, 0).op(Code.END));
        rig.store(Rig.BYTES, new byte[] {1, (byte) 255});
        int[] due = {255, 0, 255};
        for (int sort = 4; sort <= 6; sort++) {
            rig.store(Rig.BYTES, new byte[] {1, (byte) 255});
            rig.tell(sort, Rig.BYTES, 2);
            Check.due("byte 1 of SORT " + sort, rig.invoke(0, 0), "ends " + due[sort - 4]);
        }
        rig.tell(5, Rig.BYTES, 2);
        Check.due("what was put", rig.invoke(0, 1), "ends 200");
        rig.tell(5, Rig.BYTES, 2);
        Check.due("0 at first in the next run", rig.invoke(0, 0), "ends 0");
    }

    /** PUTBYTE changes the byte that is told, and no other one. */
    private static void putOneByte() {
        Rig rig = Rig.with(1, new Code().push(0x7654, 255, 3).sys(Code.PUTBYTE).push(0x3201, 0, 3).sys(Code.PUTBYTE).end());
        rig.store(Rig.BYTES, Rig.rows(256, 8));
        rig.tell(0, 0, 0, 0, 0, 0, 0, 0, 0, 6, Rig.BYTES, 256);
        rig.invoke(0, 0);
        byte[] due = Rig.rows(256, 8);
        due[255] = 0x54;
        due[0] = 1;
        Check.due("the bytes", rig.memory(Rig.BYTES, 256), due);
    }

    /** "(of RIGHTS as bits, 1 2 4)": which of them each SYS needs. */
    private static void rightsAsBits() {
        Code[] one = {new Code().sys(Code.PUT, 0, 1, 0, 1), new Code().sys(Code.GET, 0, 1, 0, 1).op(Code.DROP),
            new Code().sys(Code.DELETE, 0, 1), new Code().sys(Code.HAS, 0, 1).op(Code.DROP), new Code().sys(Code.LIST, 0, 0).op(Code.DROP),
            new Code().sys(Code.BEGIN)};
        int[] well = {0, 7, 7, 7, 7, 0};
        Code[] four = {new Code().sys(Code.MAKE, 0, 1), new Code().sys(Code.SEAL, 0, 1, 0), new Code().sys(Code.OPEN, 0, 1, 0).op(Code.DROP),
            new Code().sys(Code.SIGN, 0, 1, 0), new Code().sys(Code.PUBLIC, 0), new Code().sys(Code.AGREE, 0, 0, 0)};
        Code[] none = {new Code().sys(Code.HASH, 0, 1, 0), new Code().sys(Code.MAC, 0, 1, 0, 1, 0), new Code().sys(Code.VERIFY, 0, 1, 0, 0),
            new Code().sys(Code.MOVE, 0, 1, 1), new Code().sys(Code.GROW), new Code().sys(Code.COMMIT), new Code().sys(Code.UNDO),
            new Code().sys(Code.TIME), new Code().sys(Code.SELF), new Code().sys(Code.COUNT), new Code().sys(Code.CANCELLED)};
        for (int rights = 0; rights < 8; rights++) {
            for (int i = 0; i < 6; i++) {
                Code c = new Code().raw(toInts(one[i].bytes())).op(Code.END);
                Check.due("case " + i + " of 1 with " + rights, Rig.withRights(rights, 1, c).invoke(0, 0),
                        "ends " + ((rights & 1) != 0 ? well[i] : 2));
                Code d = new Code().raw(toInts(four[i].bytes())).end(3);
                Check.due("case " + i + " of 4 with " + rights, Rig.withRights(rights, 1, d).invoke(0, 0),
                        (rights & 4) != 0 ? "ends 3" : "fault 7");
            }
            for (int i = 0; i < none.length; i++) {
                Code c = new Code().raw(toInts(none[i].bytes())).end(3);
                Check.due("case " + i + " of none with " + rights, Rig.withRights(rights, 1, c).invoke(0, 0), "ends 3");
            }
            Check.due("ASK with " + rights, several(rights, asks(1, 0), new Code().end(9)).invoke(0, 0),
                    (rights & 2) != 0 ? "ends 9" : "ends 2000");
        }
    }

    private static int[] toInts(byte[] bytes) {
        int[] out = new int[bytes.length];
        for (int i = 0; i < out.length; i++) {
            out[i] = bytes[i] & 255;
        }
        return out;
    }

    /** "sizes not as told, or bytes beyond the pages: fault 4 (ahead of that)": PUT, GET, DELETE and HAS. */
    private static void sizesOfObjects() {
        int[][] rows = {{0, 0, 0, 1, 1}, {0, 512, 0, 1, 1}, {0, 513, 0, 1, 0}, {0, -1, 0, 1, 0}, {0, LOW, 0, 1, 0}, {0, BIG, 0, 1, 0},
            {512, 512, 0, 1, 1}, {513, 512, 0, 1, 0}, {1023, 1, 0, 1, 1}, {1024, 1, 0, 1, 0}, {1024, 0, 0, 1, 1}, {1025, 0, 0, 1, 0},
            {-1, 1, 0, 1, 0}, {-1, 0, 0, 1, 0}, {0, 1, 0, 0, 0}, {0, 1, 0, 16, 1}, {0, 1, 0, 17, 0}, {0, 1, 0, -1, 0}, {0, 1, 0, LOW, 0},
            {0, 1, 0, BIG, 0}, {0, 1, 1008, 16, 1}, {0, 1, 1009, 16, 0}, {0, 1, 1023, 1, 1}, {0, 1, 1024, 1, 0}, {0, 1, -1, 1, 0},
            {0, 1, BIG, 1, 0}, {0, 1, LOW, 16, 0}};
        for (int rights : new int[] {7, 6}) {
            for (int[] r : rows) {
                String want = r[4] == 1 ? "ends 3" : "fault 4";
                for (int sys : new int[] {Code.PUT, Code.GET}) {
                    Code c = new Code().sys(sys, r[0], r[1], r[2], r[3]).end(3);
                    Check.due("SYS " + sys + " " + Arrays.toString(r), Rig.withRights(rights, 4, c).invoke(0, 0), want);
                }
                if (r[0] == 0 && r[1] == 1) {
                    for (int sys : new int[] {Code.DELETE, Code.HAS}) {
                        Code c = new Code().sys(sys, r[2], r[3]).end(3);
                        Check.due("SYS " + sys + " " + Arrays.toString(r), Rig.withRights(rights, 4, c).invoke(0, 0), want);
                    }
                }
            }
        }
    }

    /** LIST: "(2 without the RIGHT 1, fault 4 as of 8.)": 16 bytes from d on. */
    private static void listPlaces() {
        for (int rights : new int[] {7, 6}) {
            for (int d : new int[] {LOW, -1, 0, 239, 240, 241, 255, 256, BIG}) {
                Code c = new Code().sys(Code.LIST, 0, d).op(Code.DROP, Code.END);
                String well = rights == 7 ? "ends 7" : "ends 2";
                Check.due("LIST to " + d + " with " + rights, Rig.withRights(rights, 1, c).invoke(0, 0), d >= 0 && d <= 240 ? well : "fault 4");
            }
        }
    }

    /** "CANCELLED -- 1 or 0, of the session": not of the applet. */
    private static void cancelled() {
        Rig rig = Rig.with(1, new Code().sys(Code.CANCELLED).op(Code.END));
        rig.open(0);
        rig.machine.call(8, 1, 0, 0);
        Check.due("session 0", rig.invoke(0, 0), "ends 0");
        Check.due("session 1", rig.invoke(1, 0), "ends 1");
    }

    /** "HASH a n d -- .. (fault 4)". */
    private static void hashPlaces() {
        int[][] rows = {{0, 512, 480, 1}, {0, 513, 0, 0}, {1, 512, 0, 0}, {511, 1, 0, 1}, {512, 1, 0, 0}, {512, 0, 0, 1}, {513, 0, 0, 0},
            {-1, 1, 0, 0}, {-1, 2, 0, 0}, {0, -1, 0, 0}, {0, LOW, 0, 0}, {0, BIG, 0, 0}, {BIG, BIG, 0, 0}, {LOW, LOW, 0, 0}, {0, 1, 481, 0},
            {0, 1, 512, 0}, {0, 1, -1, 0}, {0, 1, LOW, 0}, {0, 1, BIG, 0}};
        for (int[] r : rows) {
            Check.due("HASH " + Arrays.toString(r), Rig.with(2, new Code().sys(Code.HASH, r[0], r[1], r[2]).end(3)).invoke(0, 0),
                    r[3] == 1 ? "ends 3" : "fault 4");
        }
    }

    /** HASH over the very bytes that it reads. */
    private static void hashOverItself() {
        Rig rig = Rig.with(2, new Code().takeIn(0, 100, 0).sys(Code.HASH, 0, 100, 50).giveOut(0, 100, 0).end());
        rig.store(Rig.BYTES, Rig.rows(100, 4));
        rig.tell(6, Rig.BYTES, 100);
        rig.invoke(0, 0);
        byte[] due = Rig.rows(100, 4);
        System.arraycopy(Model.sha(Rig.rows(100, 4)), 0, due, 50, 32);
        Check.due("its bytes", rig.memory(Rig.BYTES, 100), due);
    }

    /** "COUNT -- the CELL's COUNT": as it is in the midst of a run. */
    private static void countOfTheCell() {
        Code c = new Code().sys(Code.COUNT).push(10).op(Code.MUL).sys(Code.PUT, 0, 0, 0, 1).op(Code.DROP).sys(Code.COUNT)
                .op(Code.ADD).push(10).op(Code.MUL).sys(Code.DELETE, 0, 1).op(Code.DROP).sys(Code.COUNT).op(Code.ADD, Code.END);
        Rig rig = Rig.with(1, c);
        Check.due("COUNT ahead of PUT, behind it, behind DELETE", rig.invoke(0, 0), "ends 12");
        Check.due("the call tells the same", rig.count(), 2);
    }

    /** "MAKE a n -- : (fault 7 without the RIGHT 4) n bytes (0 .. 256, fault 4, ahead of 7)". */
    private static void makeSizes() {
        int[][] rows = {{0, 0, 1}, {0, 256, 1}, {0, 257, 0}, {0, -1, 0}, {0, LOW, 0}, {0, BIG, 0}, {256, 256, 1}, {257, 256, 0}, {511, 1, 1},
            {512, 1, 0}, {512, 0, 1}, {513, 0, 0}, {-1, 1, 0}, {-1, 0, 0}, {BIG, 1, 0}};
        for (int[] r : rows) {
            Code c = new Code().sys(Code.MAKE, r[0], r[1]).end(3);
            Check.due("MAKE " + Arrays.toString(r), Rig.withRights(4, 2, c).invoke(0, 0), r[2] == 1 ? "ends 3" : "fault 4");
            Check.due("MAKE without the right", Rig.withRights(3, 2, c).invoke(0, 0), r[2] == 1 ? "fault 7" : "fault 4");
        }
    }

    /** "the number of MAKEs since the boot (done ones, this one counted from 0)": of all APPLETS. */
    private static void makesThatAreDone() {
        Code make = new Code().sys(Code.MAKE, 0, 8).giveOut(0, 8, 0).end();
        Code few = new Code().sys(Code.MAKE, 0, 300);
        Code none = new Code().sys(Code.MAKE, 0, 0).end();
        byte[] first = Code.image(1, make);
        byte[] second = Code.image(1, new Code().sys(Code.MAKE, 0, 8));
        byte[] third = Code.image(1, few, none, new Code(few.size() + none.size()).raw(toInts(atPlace(few.size() + none.size()).bytes())));
        Rig rig = new Rig();
        rig.setKey(KEY);
        rig.burn(first, 4);
        rig.burn(second, 3);
        rig.burn(third, 4);
        rig.start();
        for (int i = 0; i < 3; i++) {
            rig.bringIn(i == 0 ? first : i == 1 ? second : third);
            rig.open(i);
        }
        made(rig, 0, 0, 0, 0);
        made(rig, 0, 0, 0, 1);
        Check.due("MAKE without the right", rig.invoke(1, 0), "fault 7");
        made(rig, 0, 0, 0, 2);
        Check.due("MAKE of too many", rig.invoke(2, 0), "fault 4");
        Check.due("its session again", rig.open(1) + " " + rig.open(2), "1 2");
        made(rig, 0, 0, 0, 3);
        Check.due("MAKE of nothing", rig.invoke(2, 1), "ends 0");
        made(rig, 0, 0, 0, 5);
        made(rig, 2, 2, 2, 6);
        made(rig, 0, 0, 0, 7);
    }

    private static Code atPlace(int begins) {
        return new Code(begins).sys(Code.MAKE, 0, 8).giveOut(0, 8, 0).end();
    }

    private static void made(Rig rig, int session, int command, int entry, int number) {
        rig.tell(5, Rig.BYTES, 8);
        Check.due("MAKE", rig.invoke(session, command), "ends 0");
        byte[] nonce = {(byte) entry, 0, 0, 0, 0, 0, 0, 0, 0, 0, 0, (byte) number};
        Check.due("MAKE number " + number, rig.memory(Rig.BYTES, 8), Model.chacha(KEY, nonce, new byte[8]));
    }

    /** "the nonce of the ENTRY's number, seven 0s, and the number of MAKEs": whatever nonce was used ahead of it. */
    private static void makeBehindOthers() {
        Code c = new Code().word(100, -1).word(104, -1).word(108, -1).sys(Code.SEAL, 0, 8, 100).sys(Code.PUT, 0, 200, 100, 1).op(Code.DROP);
        Rig rig = new Rig();
        rig.setKey(KEY);
        byte[] image = Code.image(1, c.sys(Code.MAKE, 0, 8).giveOut(0, 8, 0).end());
        rig.burn(image, 7);
        rig.start();
        rig.bringIn(image);
        rig.open(0);
        made(rig, 0, 0, 0, 0);
        made(rig, 0, 0, 0, 1);
    }

    /** "PANIC: fault 8". */
    private static void panic() {
        due("PANIC", new Code().sys(Code.PANIC).end(), "fault 8");
        due("PANIC behind words", new Code().push(1, 2, 3).sys(Code.PANIC).end(), "fault 8");
    }

    /** "SELF -- the ENTRY's number": not its PRODUCT's. */
    private static void self() {
        Rig rig = new Rig();
        for (int i = 0; i < 8; i++) {
            rig.burn(Code.image(1, new Code().sys(Code.SELF).op(Code.END), new Code().end(i)), 0);
            rig.machine.product(i, 7 - i, 0);
        }
        rig.start();
        for (int i = 0; i < 8; i++) {
            rig.bringIn(Code.image(1, new Code().sys(Code.SELF).op(Code.END), new Code().end(i)));
            rig.open(i);
            Check.due("SELF of " + i, rig.invoke(i, 0), "ends " + i);
        }
    }

    /** "2 without the RIGHT 2; 3 if it is not in, or y not one of its": r is 0 then. */
    private static void askNotIn() {
        int[][] rows = {{1, 0, 9}, {1, 1, 3000}, {1, -1, 3000}, {1, 8, 3000}, {1, BIG, 3000}, {1, LOW, 3000}, {2, 0, 3000}, {7, 0, 3000},
            {8, 0, 3000}, {-1, 0, 3000}, {BIG, 0, 3000}, {LOW, 0, 3000}, {0, 1, 3000}, {0, 0, 8000}};
        for (int[] r : rows) {
            Check.due("ASK " + r[0] + " " + r[1], several(7, asks(r[0], r[1]), new Code().end(9)).invoke(0, 0), "ends " + r[2]);
            Check.due("without the right", several(5, asks(r[0], r[1]), new Code().end(9)).invoke(0, 0), "ends 2000");
        }
        Rig rig = several(7, asks(1, 0), new Code().end(9));
        rig.machine.call(4, 1, 0, 0);
        Check.due("one that was unloaded", rig.invoke(0, 0), "ends 3000");
    }

    /** "8 if it runs already (for any session)". */
    private static void askRunsAlready() {
        Rig rig = several(7, asks(1, 0), new Code().push(9).op(Code.END));
        rig.machine.call(12, 1, 0, 0);
        Check.due("1 yields for its own session", rig.invoke(1, 0), "code 9");
        rig.machine.call(12, 0, 0, 0);
        Check.due("ASK of it", rig.invoke(0, 0), "ends 8000");
        Check.due("it goes on", rig.resume(1), "ends 9");
        Check.due("ASK of it now", rig.invoke(0, 0), "ends 9");
        Rig back = several(7, asks(1, 0), asks(0, 0));
        Check.due("ASK back", back.invoke(0, 0), "ends 8000");
    }

    /** "(four run for one session at most, the first one with them)": 3 comes ahead of 8. */
    private static void fourRun() {
        Rig rig = several(7, asks(1, 0), asks(2, 0), asks(3, 0), asks(4, 0), new Code().end(9));
        Check.due("the fourth asks a fifth", rig.invoke(0, 0), "ends 8000");
        Check.due("from the second on there are four", rig.invoke(1, 0), "ends 9");
        Rig none = several(7, asks(1, 0), asks(2, 0), asks(3, 0), asks(5, 0), new Code().end(9));
        Check.due("the fourth asks one that is not in", none.invoke(0, 0), "ends 3000");
        Rig more = several(7, asks(1, 0), asks(2, 0), asks(3, 0), asks(4, 1), new Code().end(9));
        Check.due("the fourth asks for a COMMAND that there is not", more.invoke(0, 0), "ends 3000");
        Rig again = several(7, asks(1, 0), new Code().sys(Code.ASK, 2, 0).sys(Code.ASK, 2, 0).op(Code.ADD, Code.ADD, Code.ADD, Code.END),
                new Code().end(9));
        Check.due("one that has ended can be asked again", again.invoke(0, 0), "ends 18");
    }

    /** "runs COMMAND y with the same PARAMETERS, for the same session". */
    private static void askTheSameParameters() {
        Code sets = new Code().sys(Code.FIRST, 0).push(1).op(Code.ADD).push(0).sys(Code.SETFIRST).sys(Code.CANCELLED).op(Code.END);
        Rig rig = several(7, new Code().sys(Code.ASK, 1, 0).sys(Code.ASK, 1, 0).op(Code.ADD, Code.ADD, Code.ADD, Code.END), sets);
        rig.machine.call(8, 0, 0, 0);
        rig.tell(3, 40, 0);
        Check.due("CANCELLED twice", rig.invoke(0, 0), "ends 2");
        Check.due("the value has gone up twice", rig.word(Rig.TOLD + 4), 42);
        Code[] two = {new Code().end(11), new Code().end(12)};
        byte[] image = Code.image(1, two);
        Rig command = new Rig();
        byte[] asker = Code.image(1, asks(1, 1));
        command.burn(asker, 7);
        command.burn(image, 7);
        command.start();
        command.bringIn(asker);
        command.bringIn(image);
        command.open(0);
        Check.due("COMMAND 1", command.invoke(0, 0), "ends 12");
    }

    /** "its own STACK and returns; STEPS count on". */
    private static void askOwnStack() {
        Code full = new Code();
        for (int i = 0; i < 62; i++) {
            full.push(1);
        }
        full.sys(Code.ASK, 1, 0).op(Code.SWAP).push(1000).op(Code.MUL, Code.ADD, Code.END);
        Check.due("the answer makes 64 words, so a PUSH is too much", several(7, full, new Code().op(Code.DROP)).invoke(0, 0),
                "fault 3");
        Code less = new Code();
        for (int i = 0; i < 61; i++) {
            less.push(1);
        }
        less.sys(Code.ASK, 1, 0).op(Code.SWAP).push(1000).op(Code.MUL, Code.ADD, Code.END);
        Check.due("too few of its own", several(7, less, new Code().op(Code.DROP)).invoke(0, 0), "ends 5002");
        Code calls = new Code().jump(Code.CALL, 3).sys(Code.ASK, 1, 0).op(Code.SWAP).push(1000).op(Code.MUL, Code.ADD, Code.END);
        Check.due("no return of the asker's", several(7, calls, new Code().op(Code.RET)).invoke(0, 0), "ends 5005");
        Code time = new Code().sys(Code.ASK, 1, 0).sys(Code.TIME).op(Code.END);
        Check.due("STEPS", several(7, time, new Code().push(1, 2).op(Code.END)).invoke(0, 0), "ends 7");
        Check.due("STEPS in the asked one", several(7, asks(1, 0), new Code().sys(Code.TIME).op(Code.END)).invoke(0, 0), "ends 4");
    }

    /** "5 and r the fault if it faults (.. what it did stays)". */
    private static void askFaults() {
        Code did = new Code().word(0, 77).push(9, 0).sys(Code.SETFIRST).op(Code.RET);
        byte[] one = Code.image(1, asks(1, 0));
        byte[] two = Code.image(1, did, new Code().push(0).op(Code.LOADW, Code.END));
        Rig rig = new Rig();
        rig.burn(one, 7);
        rig.burn(two, 7);
        rig.start();
        rig.bringIn(one);
        rig.bringIn(two);
        rig.open(0);
        rig.open(1);
        rig.tell(3, 1, 2);
        Check.due("fault 5 of the asked one", rig.invoke(0, 0), "ends 5005");
        Check.due("what it did to the PARAMETERS", rig.word(Rig.TOLD + 4), 9);
        Check.due("what it did to its pages", rig.invoke(1, 1), "ends 77");
    }

    /** "(but 6, which is the asker's fault, too ..)": of all that run for the session. */
    private static void askFaultSix() {
        Code turns = new Code().jump(Code.JUMP, 0);
        Rig rig = several(7, asks(1, 0), asks(2, 0), turns);
        Check.due("the third has fault 6", rig.invoke(0, 0), "fault 6");
        Check.due("the session has ended", rig.machine.call(6, 0, 0, 0), 3);
        Check.due("the second one's has not", rig.machine.call(8, 1, 0, 0), 0);
        Check.due("none of them runs: UNLOAD 2", rig.machine.call(4, 2, 0, 0), 0);
        Check.due("none of them runs: 1", rig.invoke(1, 0), "ends 3000");
    }

    /** The same, when a SYS of the asked one wants more STEPS than there are: the asker does not go on with those left. */
    private static void askFaultSixWithStepsLeft() {
        Code asked = new Code().sys(Code.PUBLIC, 0).sys(Code.PUBLIC, 0).sys(Code.PUBLIC, 0).sys(Code.PUBLIC, 0);
        Rig rig = several(7, asks(1, 0), asked);
        Check.due("the asked one has fault 6", rig.invoke(0, 0), "fault 6");
        Check.due("the session has ended", rig.machine.call(6, 0, 0, 0), 3);
        Check.due("the asked one's own is open", rig.machine.call(8, 1, 0, 0), 0);
    }

    /** "GROW -- c: one page more behind the others, .. at most 8: 0, else 4. It stays." */
    private static void growAtMostEight() {
        for (int pages = 1; pages <= 4; pages++) {
            Code grows = new Code().sys(Code.GROW).op(Code.END);
            Code touch = new Code().sys(Code.FIRST, 0).op(Code.LOADB, Code.END);
            Rig rig = Rig.with(pages, grows, touch);
            for (int page = 8; page < 16; page++) {
                rig.machine.call(1, page, 0, 0);
            }
            for (int have = pages; have < 8; have++) {
                Check.due("GROW from " + have, rig.invoke(0, 0), "ends 0");
                rig.tell(1, 256 * have + 255, 0);
                Check.due("its last byte", rig.invoke(0, 1), "ends 0");
                rig.tell(1, 256 * have + 256, 0);
                Check.due("and no more", rig.invoke(0, 1), "fault 4");
                rig.open(0);
            }
            Check.due("GROW from 8", rig.invoke(0, 0), "ends 4");
            rig.tell(1, 2047, 0);
            Check.due("the last byte of eight", rig.invoke(0, 1), "ends 0");
        }
    }

    /** "the lowest free one": 4 when there is none. */
    private static void growLowestFree() {
        byte[] image = Code.image(1, new Code().sys(Code.GROW).op(Code.END));
        Rig rig = new Rig();
        rig.burn(image, 7);
        rig.machine.boot();
        rig.machine.call(1, 15, 0, 0);
        rig.bringIn(image);
        rig.open(0);
        Check.due("GROW without any", rig.invoke(0, 0), "ends 4");
        for (int page : new int[] {22, 9, 18}) {
            rig.machine.call(1, page, 0, 0);
        }
        int[] order = {9, 18, 22};
        for (int i = 0; i < 3; i++) {
            Check.due("GROW", rig.invoke(0, 0), "ends 0");
            for (int k = 0; k < 3; k++) {
                Check.due("PROTECT " + order[k], rig.machine.call(1, order[k], 0, 0), 8);
            }
            if (i < 2) {
                Check.due("the next one is free still", rig.machine.call(2, order[i + 1], 0, 0), 0);
                rig.machine.call(1, order[i + 1], 0, 0);
            }
            Check.due("this one is not", rig.machine.call(2, order[i], 0, 0), 8);
        }
        Check.due("GROW without any", rig.invoke(0, 0), "ends 4");
    }

    /** "MAC a n k m d -- : the MAC with the m bytes (0 .. 64)". */
    private static void macSizes() {
        int[][] rows = {{0, 0, 0, 0, 0, 1}, {0, 512, 0, 64, 0, 1}, {0, 513, 0, 0, 0, 0}, {0, -1, 0, 0, 0, 0}, {512, 0, 512, 0, 480, 1},
            {513, 0, 0, 0, 0, 0}, {0, 0, 513, 0, 0, 0}, {0, 0, 448, 64, 0, 1}, {0, 0, 449, 64, 0, 0}, {0, 0, 0, 65, 0, 0},
            {0, 0, 0, -1, 0, 0}, {0, 0, 0, LOW, 0, 0}, {0, 0, 0, BIG, 0, 0}, {0, 0, -1, 1, 0, 0}, {0, 0, 0, 0, 481, 0}, {0, 0, 0, 0, -1, 0},
            {-1, 1, 0, 0, 0, 0}, {0, BIG, 0, 0, 0, 0}};
        for (int[] r : rows) {
            Check.due("MAC " + Arrays.toString(r),
                    Rig.withRights(0, 2, new Code().sys(Code.MAC, r[0], r[1], r[2], r[3], r[4]).end(3)).invoke(0, 0),
                    r[5] == 1 ? "ends 3" : "fault 4");
        }
        for (int m : new int[] {0, 1, 63, 64}) {
            Rig rig = Rig.with(2, new Code().takeIn(0, 200, 256).sys(Code.MAC, 256, 100, 360, m, 300).giveOut(300, 32, 1).end());
            rig.store(Rig.BYTES, Rig.rows(200, 5));
            rig.tell(4, Rig.BYTES, 200, 5, Rig.BYTES + 256, 32);
            rig.invoke(0, 0);
            Check.due("MAC with " + m, rig.memory(Rig.BYTES + 256, 32),
                    Model.mac(Arrays.copyOfRange(Rig.rows(200, 5), 104, 104 + m), Arrays.copyOf(Rig.rows(200, 5), 100)));
        }
    }

    /** SEAL and OPEN: "the n bytes (0 .. 512) from a on .., its tag comes behind (16 bytes)"; fault 4, then 7. */
    private static void sealSizes() {
        int[][] rows = {{0, 0, 0, 1}, {0, 512, 0, 1}, {0, 513, 0, 0}, {0, -1, 0, 0}, {0, -16, 0, 0}, {0, LOW, 0, 0}, {0, BIG, 0, 0},
            {496, 512, 0, 1}, {497, 512, 0, 0}, {1008, 0, 0, 1}, {1009, 0, 0, 0}, {-1, 1, 0, 0}, {0, 1, 1012, 1}, {0, 1, 1013, 0},
            {0, 1, -1, 0}, {0, 1, BIG, 0}};
        for (int sys : new int[] {Code.SEAL, Code.OPEN}) {
            for (int[] r : rows) {
                Code c = new Code().sys(sys, r[0], r[1], r[2]).end(3);
                Check.due("SYS " + sys + " " + Arrays.toString(r), Rig.withRights(4, 4, c).invoke(0, 0), r[3] == 1 ? "ends 3" : "fault 4");
                Check.due("without the right", Rig.withRights(3, 4, c).invoke(0, 0), r[3] == 1 ? "fault 7" : "fault 4");
            }
        }
    }

    /** "0, and they are as they were; 6, and nothing is changed, if the tag is not right": each of its 16 bytes. */
    private static void openRightAndWrong() {
        for (int wrong = -1; wrong < 16; wrong++) {
            Code c = new Code().takeIn(0, 60, 0).sys(Code.SEAL, 0, 40, 200);
            if (wrong >= 0) {
                c.push(40 + wrong).op(Code.LOADB).push(128).op(Code.XOR).push(40 + wrong).op(Code.STOREB);
            }
            c.giveOut(0, 60, 1).sys(Code.OPEN, 0, 40, 200).giveOut(0, 60, 2).end();
            Rig rig = Rig.with(1, c);
            rig.store(Rig.BYTES, Rig.rows(60, 3));
            rig.tell(4, Rig.BYTES, 60, 5, Rig.BYTES + 256, 60, 5, Rig.BYTES + 512, 60);
            Check.due("OPEN with byte " + wrong + " of the tag wrong", rig.invoke(0, 0), wrong < 0 ? "ends 0" : "ends 6");
            byte[] sealed = rig.memory(Rig.BYTES + 256, 60);
            byte[] due = sealed.clone();
            if (wrong < 0) {
                System.arraycopy(Rig.rows(60, 3), 0, due, 0, 40);
            }
            Check.due("the bytes", rig.memory(Rig.BYTES + 512, 60), due);
            Check.due("those behind the tag", Arrays.copyOfRange(sealed, 56, 60), Arrays.copyOfRange(Rig.rows(60, 3), 56, 60));
        }
    }

    /** "SIGN a n d -- : .. the n bytes (0 .. 512) from a on comes from d on": fault 4, then 7. */
    private static void signSizes() {
        int[][] rows = {{0, 0, 0, 1}, {0, 512, 0, 1}, {0, 513, 0, 0}, {0, -1, 0, 0}, {0, LOW, 0, 0}, {512, 512, 0, 1}, {513, 512, 0, 0},
            {1024, 0, 0, 1}, {1025, 0, 0, 0}, {-1, 0, 0, 0}, {0, 1, 960, 1}, {0, 1, 961, 0}, {0, 1, -1, 0}, {0, 1, BIG, 0}};
        for (int[] r : rows) {
            Code c = new Code().sys(Code.SIGN, r[0], r[1], r[2]).end(3);
            Check.due("SIGN " + Arrays.toString(r), Rig.withRights(4, 4, c).invoke(0, 0), r[3] == 1 ? "ends 3" : "fault 4");
            Check.due("without the right", Rig.withRights(3, 4, c).invoke(0, 0), r[3] == 1 ? "fault 7" : "fault 4");
        }
    }

    /** "VERIFY a n k s -- 1 or 0: .. the 64 bytes from s on .. the n bytes (0 .. 512) .. 32 bytes from k on". */
    private static void verifySizes() {
        int[][] rows = {{0, 0, 0, 0, 1}, {0, 512, 0, 0, 1}, {0, 513, 0, 0, 0}, {0, -1, 0, 0, 0}, {512, 512, 0, 0, 1}, {513, 512, 0, 0, 0},
            {1024, 0, 0, 0, 1}, {1025, 0, 0, 0, 0}, {-1, 0, 0, 0, 0}, {0, 0, 992, 0, 1}, {0, 0, 993, 0, 0}, {0, 0, -1, 0, 0},
            {0, 0, 0, 960, 1}, {0, 0, 0, 961, 0}, {0, 0, 0, -1, 0}, {0, 0, 0, BIG, 0}, {0, 0, LOW, 0, 0}};
        for (int[] r : rows) {
            Code c = new Code().sys(Code.VERIFY, r[0], r[1], r[2], r[3]).op(Code.END);
            Check.due("VERIFY " + Arrays.toString(r), Rig.withRights(0, 4, c).invoke(0, 0), r[4] == 1 ? "ends 0" : "fault 4");
        }
    }

    /** "PUBLIC d -- ": 32 bytes from d on, fault 4, then 7. */
    private static void publicPlaces() {
        for (int d : new int[] {LOW, -1, 0, 224, 225, 256, BIG}) {
            boolean good = d == 0 || d == 224;
            Code c = new Code().sys(Code.PUBLIC, d).end(3);
            Check.due("PUBLIC to " + d, Rig.withRights(4, 1, c).invoke(0, 0), good ? "ends 3" : "fault 4");
            Check.due("without the right", Rig.withRights(3, 1, c).invoke(0, 0), good ? "fault 7" : "fault 4");
        }
    }

    /** "AGREE k u d -- .. (fault 4 for places, then 7 without the RIGHT 4)". */
    private static void agreePlaces() {
        for (int i = 0; i < 3; i++) {
            for (int at : new int[] {LOW, -1, 0, 224, 225, 256, BIG}) {
                int[] words = new int[3];
                words[i] = at;
                boolean good = at == 0 || at == 224;
                Code c = new Code().sys(Code.AGREE, words).end(3);
                Check.due("AGREE " + Arrays.toString(words), Rig.withRights(4, 1, c).invoke(0, 0), good ? "ends 3" : "fault 4");
                Check.due("without the right", Rig.withRights(3, 1, c).invoke(0, 0), good ? "fault 7" : "fault 4");
            }
        }
    }

    /** "MOVE a n d -- .. (fault 4)". */
    private static void movePlaces() {
        int[][] rows = {{0, 0, 0, 1}, {0, 512, 0, 1}, {0, 513, 0, 0}, {0, 511, 1, 1}, {0, 512, 1, 0}, {1, 512, 0, 0}, {1, 511, 0, 1},
            {512, 0, 512, 1}, {513, 0, 0, 0}, {0, 0, 513, 0}, {-1, 1, 0, 0}, {0, 1, -1, 0}, {0, -1, 0, 0}, {0, LOW, 0, 0}, {0, BIG, 0, 0},
            {BIG, 1, 0, 0}, {0, 1, BIG, 0}, {0, 1, 511, 1}, {0, 1, 512, 0}, {511, 1, 0, 1}};
        for (int[] r : rows) {
            Check.due("MOVE " + Arrays.toString(r), Rig.withRights(0, 2, new Code().sys(Code.MOVE, r[0], r[1], r[2]).end(3)).invoke(0, 0),
                    r[3] == 1 ? "ends 3" : "fault 4");
        }
    }

    /** "the n bytes from a on, as they are ahead of it, come from d on": over themselves, both ways. */
    private static void moveAsTheyAre() {
        int[][] rows = {{0, 50, 1}, {1, 50, 0}, {0, 50, 25}, {25, 50, 0}, {0, 50, 50}, {10, 1, 11}, {7, 50, 7}, {20, 0, 40}};
        for (int[] r : rows) {
            Rig rig = Rig.with(1, new Code().takeIn(0, 100, 0).sys(Code.MOVE, r[0], r[1], r[2]).giveOut(0, 100, 0).end());
            rig.store(Rig.BYTES, Rig.rows(100, 9));
            rig.tell(6, Rig.BYTES, 100);
            rig.invoke(0, 0);
            byte[] due = Rig.rows(100, 9);
            System.arraycopy(due.clone(), r[0], due, r[2], r[1]);
            Check.due("MOVE " + Arrays.toString(r), rig.memory(Rig.BYTES, 100), due);
        }
    }

    /** "its pages 0, 1, .. in their order": rows of bytes go on from one to the next, wherever they lie in MEMORY. */
    private static void pagesThatLieApart() {
        int[][] moves = {{255, 2, 511}, {1, 511, 257}, {257, 511, 1}, {254, 3, 510}, {0, 768, 0}, {129, 300, 401}, {255, 258, 253},
            {511, 1, 255}, {512, 256, 255}};
        for (int[] m : moves) {
            Code c = new Code().sys(Code.MAKE, 0, 255).sys(Code.MAKE, 255, 256).sys(Code.MAKE, 511, 256).sys(Code.MAKE, 767, 1);
            c.sys(Code.MOVE, m[0], m[1], m[2]).end();
            Code out = new Code();
            for (int i = 0; i < 3; i++) {
                out.raw(toInts(giving(c.size() + out.size(), 256 * i, i).bytes()));
            }
            out.end();
            Code hash = new Code(c.size() + out.size()).sys(Code.HASH, 1, 767, 700).push(700).op(Code.LOADW, Code.END);
            byte[] image = Code.image(3, c, out, hash);
            Rig rig = new Rig();
            rig.setKey(KEY);
            rig.burn(image, 7);
            rig.machine.boot();
            for (int page : new int[] {20, 10, 15}) {
                rig.machine.call(1, page, 0, 0);
            }
            rig.bringIn(image);
            byte[] ones = new byte[256];
            Arrays.fill(ones, (byte) 0xee);
            for (int page : new int[] {9, 11, 14, 16, 19, 21}) {
                rig.store(256 * page, ones);
            }
            rig.open(0);
            Check.due("MAKE and MOVE", rig.invoke(0, 0), "ends 0");
            byte[] due = new byte[768];
            int[][] makes = {{0, 255}, {255, 256}, {511, 256}, {767, 1}};
            for (int i = 0; i < 4; i++) {
                byte[] nonce = {0, 0, 0, 0, 0, 0, 0, 0, 0, 0, 0, (byte) i};
                System.arraycopy(Model.chacha(KEY, nonce, new byte[makes[i][1]]), 0, due, makes[i][0], makes[i][1]);
            }
            System.arraycopy(due.clone(), m[0], due, m[2], m[1]);
            rig.tell(5, 0, 256, 5, 256, 256, 5, 512, 256, 3, 0, 0);
            Check.due("the bytes go out", rig.invoke(0, 1), "ends 0");
            Check.due("the bytes behind MOVE " + Arrays.toString(m), rig.memory(0, 768), due);
            byte[] digest = Model.sha(Arrays.copyOfRange(due, 1, 768));
            Check.due("HASH of all but the first", rig.invoke(0, 2),
                    "ends " + word(digest));
            for (int page : new int[] {9, 11, 14, 16, 19, 21}) {
                Check.due("page " + page + " beside them", rig.memory(256 * page, 256), ones);
            }
        }
    }

    /** The 256 bytes from a on come to a PARAMETER; they are counted by PARAMETER 3, so that no byte is worked with. */
    private static Code giving(int begins, int a, int parameter) {
        Code c = new Code(begins).push(0, 3).sys(Code.SETFIRST);
        int loop = c.place();
        c.sys(Code.FIRST, 3).push(a).op(Code.ADD, Code.LOADB).sys(Code.FIRST, 3).push(parameter).sys(Code.PUTBYTE);
        c.sys(Code.FIRST, 3).push(1).op(Code.ADD, Code.DUP).push(3).sys(Code.SETFIRST).push(256).op(Code.SUB);
        return c.jump(Code.JZERO, c.place() + 6).jump(Code.JUMP, loop);
    }

    /** Ends with 1 if the n bytes from a on are those from b on. */
    private static Code same(Code c, int a, int b, int n) {
        return c.sys(Code.HASH, a, n, 900).sys(Code.HASH, b, n, 960).push(900).op(Code.LOADW).push(960).op(Code.LOADW, Code.SAME, Code.END);
    }

    /** Four pages that lie apart, with other bytes of the normal world between them; the first 200 are made. */
    private static String apart(Code c) {
        Rig rig = new Rig();
        rig.setKey(KEY);
        byte[] image = Code.image(4, new Code().sys(Code.MAKE, 0, 200).raw(toInts(c.bytes())));
        rig.burn(image, 7);
        rig.machine.boot();
        for (int page : new int[] {22, 18, 10, 14}) {
            rig.machine.call(1, page, 0, 0);
        }
        rig.bringIn(image);
        byte[] ones = new byte[256];
        Arrays.fill(ones, (byte) 0xee);
        for (int page : new int[] {9, 11, 13, 15, 17, 19, 21, 23}) {
            rig.store(256 * page, ones);
        }
        rig.open(0);
        return rig.invoke(0, 0);
    }

    /** Whatever row a SYS takes or gives, it may begin in one page and end in the next one. */
    private static void rowsOverTwoPages() {
        Code name = new Code().sys(Code.PUT, 0, 3, 0, 16).op(Code.DROP).sys(Code.MOVE, 0, 16, 250).sys(Code.HAS, 250, 16).op(Code.ADD, Code.END);
        Check.due("a name", apart(name), "ends 3");
        Code list = new Code().sys(Code.PUT, 0, 3, 0, 16).op(Code.DROP).sys(Code.LIST, 0, 507).op(Code.DROP, Code.DROP);
        Check.due("a name that is told", apart(same(list, 0, 507, 16)), "ends 1");
        Code mac = new Code().sys(Code.MAC, 100, 50, 0, 64, 600).sys(Code.MOVE, 0, 64, 231).sys(Code.MAC, 100, 50, 231, 64, 751);
        Check.due("a MAC and its key", apart(same(mac, 600, 751, 32)), "ends 1");
        Code seal = new Code().sys(Code.MOVE, 100, 40, 600).sys(Code.SEAL, 600, 40, 0).sys(Code.MOVE, 0, 12, 251).sys(Code.MOVE, 100, 40, 731)
                .sys(Code.SEAL, 731, 40, 251);
        Check.due("SEAL and its nonce", apart(same(seal, 600, 731, 56)), "ends 1");
        Code open = new Code().sys(Code.MOVE, 100, 40, 481).sys(Code.SEAL, 481, 40, 0).sys(Code.OPEN, 481, 40, 0).op(Code.DROP);
        Check.due("OPEN", apart(same(open, 100, 481, 40)), "ends 1");
        Code agree = new Code().sys(Code.AGREE, 0, 32, 600).sys(Code.MOVE, 0, 32, 241).sys(Code.MOVE, 32, 32, 497).sys(Code.AGREE, 241, 497, 743);
        Check.due("AGREE", apart(same(agree, 600, 743, 32)), "ends 1");
        Code sign = new Code().sys(Code.SIGN, 0, 100, 600).sys(Code.MOVE, 0, 100, 201).sys(Code.SIGN, 201, 100, 737);
        Check.due("SIGN", apart(same(sign, 600, 737, 64)), "ends 1");
        Code verify = new Code().sys(Code.PUBLIC, 241).sys(Code.SIGN, 0, 100, 481).sys(Code.MOVE, 0, 100, 701)
                .sys(Code.VERIFY, 701, 100, 241, 481).op(Code.END);
        Check.due("VERIFY", apart(verify), "ends 1");
        Code object = new Code().sys(Code.PUT, 101, 300, 0, 1).op(Code.DROP).sys(Code.GET, 501, 300, 0, 1).op(Code.DROP, Code.DROP);
        Check.due("PUT and GET", apart(same(object, 101, 501, 300)), "ends 1");
    }

    /** The same of a row that goes over all of four pages. */
    private static void rowsOverFourPages() {
        for (int[] m : new int[][] {{0, 700, 257}, {257, 700, 1}, {3, 1000, 5}, {255, 514, 254}}) {
            Code plain = new Code().sys(Code.MOVE, 0, 200, 200).sys(Code.MOVE, 3, 397, 401).sys(Code.MOVE, 7, 200, 799);
            Check.due("HASH over four pages", apart(plain.sys(Code.HASH, m[0], m[1], 0).push(0).op(Code.LOADW, Code.END)),
                    "ends " + word(Model.sha(Arrays.copyOfRange(four(), m[0], m[0] + m[1]))));
            byte[] moved = four();
            System.arraycopy(moved.clone(), m[0], moved, m[2], m[1]);
            Code move = new Code().sys(Code.MOVE, 0, 200, 200).sys(Code.MOVE, 3, 397, 401).sys(Code.MOVE, 7, 200, 799);
            Check.due("MOVE over four pages", apart(move.sys(Code.MOVE, m[0], m[1], m[2]).sys(Code.HASH, 0, 1024, 0).push(0)
                    .op(Code.LOADW, Code.END)), "ends " + word(Model.sha(moved)));
        }
    }

    /** What the first three MOVEs there make of the 200 bytes. */
    private static byte[] four() {
        byte[] all = Arrays.copyOf(Model.chacha(KEY, new byte[12], new byte[200]), 1024);
        for (int[] m : new int[][] {{0, 200, 200}, {3, 397, 401}, {7, 200, 799}}) {
            System.arraycopy(all.clone(), m[0], all, m[2], m[1]);
        }
        return all;
    }

    private static int word(byte[] bytes) {
        return bytes[0] & 255 | (bytes[1] & 255) << 8 | (bytes[2] & 255) << 16 | bytes[3] << 24;
    }

    /** "TIME -- STEPS done since INVOKE, this one with them". */
    private static void timeOfThisOne() {
        due("TIME at once", new Code().sys(Code.TIME).op(Code.END), "ends 1");
        due("TIME twice", new Code().sys(Code.TIME).sys(Code.TIME).op(Code.END), "ends 2");
        Rig rig = Rig.with(1, new Code().push(1).op(Code.DROP).sys(Code.TIME).op(Code.END));
        rig.machine.call(12, 1, 0, 0);
        rig.invoke(0, 0);
        rig.resume(0);
        rig.resume(0);
        Check.due("TIME from slice to slice", rig.resume(0), "ends 3");
        rig.machine.call(12, 0, 0, 0);
        Check.due("TIME of the next INVOKE", rig.invoke(0, 0), "ends 3");
    }
}
