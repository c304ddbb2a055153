import java.nio.ByteBuffer;
import java.util.Arrays;

/** Promise 10, Part II: the sentences that name an edge of a call of the monitor, one test each. */
public final class CallEdgesTest {
    private static final int BIG = Integer.MAX_VALUE;
    private static final int LOW = Integer.MIN_VALUE;
    /** Page 16 is the first that Rig.start() makes SECURE: the normal bytes end here. */
    private static final int WALL = 16 * 256;

    private CallEdgesTest() {
    }

    public static void main(String[] args) {
        whenDown();
        othersAreZero();
        belowZero();
        otherNumbers();
        protectPages();
        protectBusy();
        protectZeros();
        releasePages();
        releaseNotFree();
        loadSizes();
        loadPlaces();
        loadDenied();
        loadFirstSuch();
        loadVersions();
        loadBusy();
        loadForm();
        loadFull();
        loadLowest();
        loadOrder();
        loadAgain();
        unloadNone();
        unloadBusy();
        unloadSessions();
        unloadPages();
        openFull();
        openLeast();
        closeNone();
        closeInTheMidst();
        invokeOrder();
        invokeCommands();
        invokePlace();
        parameterSorts();
        parameterSizes();
        parameterPlaces();
        emptyParameters();
        copiedAtOnce();
        yields();
        ends();
        goesOut();
        faults();
        cancel();
        digestSizes();
        digestPlaces();
        kept();
        slices();
        resume();
        goesOutNoMore();
        wordsGoOutNoMore();
        comesInAlone();
        raise();
        publicKey();
        prove();
        Check.finish();
    }

    private static void due(Rig rig, int number, int x, int y, int z, int want) {
        String call = "call(" + number + ", " + x + ", " + y + ", " + z + ")";
        Check.due(call, rig.machine.call(number, x, y, z), want);
        for (int i = 0; want != 0 && want != 5 && i < 4; i++) {
            Check.due("result " + i + " of " + call, rig.machine.result(i), 0);
        }
    }

    /** Applets 0 .. n - 1 of one page that are in; each has the command that it is given. */
    private static Rig several(Code... commands) {
        Rig rig = new Rig();
        byte[][] images = new byte[commands.length][];
        for (int i = 0; i < commands.length; i++) {
            images[i] = Code.image(1, commands[i]);
            rig.burn(images[i], 7);
        }
        rig.start();
        for (byte[] image : images) {
            rig.bringIn(image);
        }
        return rig;
    }

    private static byte[] ending(int with) {
        return Code.image(1, new Code().end(with));
    }

    /** "-1 when the machine is DOWN". */
    private static void whenDown() {
        for (int number = -1; number < 19; number++) {
            due(new Rig(), number, 0, 0, 0, -1);
            due(new Rig(), number, -1, -1, -1, -1);
        }
    }

    /** "RESULTS 0 .. 3 are what is told (the others 0), all 0 when the code is not 0". */
    private static void othersAreZero() {
        Rig rig = Rig.with(1, new Code().sys(Code.PUT, 0, 1, 0, 1).op(Code.END));
        rig.invoke(0, 0);
        due(rig, 10, 0, 0, 0, 0);
        int[] kept = {1, 1, 4, 0};
        for (int i = 0; i < 4; i++) {
            Check.due("result " + i + " of KEPT", rig.machine.result(i), kept[i]);
        }
        int[][] ones = {{0, 0, 0, 0, 1}, {11, 0, 0, 0, 1}, {5, 0, 0, 0, 1}};
        for (int[] o : ones) {
            due(rig, 10, 0, 0, 0, 0);
            due(rig, o[0], o[1], o[2], o[3], 0);
            Check.due("result 0 of " + o[0], rig.machine.result(0), o[4]);
            for (int i = 1; i < 4; i++) {
                Check.due("result " + i + " of " + o[0], rig.machine.result(i), 0);
            }
        }
        for (int number : new int[] {1, 2, 6, 8, 9, 12, 15}) {
            due(rig, 10, 0, 0, 0, 0);
            due(rig, number, number < 3 ? 9 : number == 6 || number == 8 ? 1 : 0, 0, 0, number == 8 ? 3 : 0);
            for (int i = 0; i < 4; i++) {
                Check.due("result " + i + " of " + number, rig.machine.result(i), 0);
            }
        }
        due(rig, 10, 0, 0, 0, 0);
        due(rig, 10, 8, 0, 0, 1);
    }

    /** "x, y, z below 0 are BAD where a place or how many is asked for, NONE where a thing". */
    private static void belowZero() {
        Rig rig = Rig.with(1, new Code().end());
        for (int low : new int[] {-1, LOW}) {
            int[][] bad = {{1, low, 0, 0}, {2, low, 0, 0}, {3, low, 5, 0}, {3, 0, low, 0}, {7, 0, 0, low}, {9, low, 0, 0},
                {9, 0, low, 0}, {9, 0, 0, low}, {10, low, 0, 0}, {12, low, 0, 0}, {15, low, 0, 0}, {16, 0, low, 0},
                {16, 0, 0, low}, {7, 0, low, 0}};
            for (int[] b : bad) {
                due(rig, b[0], b[1], b[2], b[3], 1);
            }
            for (int number : new int[] {4, 5, 6, 7, 8, 13, 14, 16}) {
                due(rig, number, low, 0, 0, 3);
            }
        }
    }

    /** "All other numbers: BAD." */
    private static void otherNumbers() {
        Rig rig = new Rig();
        rig.machine.boot();
        for (int number : new int[] {-1, 17, 18, 100, 256, 65536, BIG, LOW}) {
            due(rig, number, 0, 0, 0, 1);
        }
    }

    /** "PROTECT x: page x, 8 .. 23 (BAD)". */
    private static void protectPages() {
        for (int page : new int[] {LOW, -1, 0, 7, 8, 23, 24, 31, 32, BIG}) {
            Rig rig = new Rig();
            rig.machine.boot();
            due(rig, 1, page, 0, 0, page >= 8 && page <= 23 ? 0 : 1);
        }
    }

    /** "NORMAL (BUSY)": neither a free one nor an applet's can be protected again. */
    private static void protectBusy() {
        Rig rig = Rig.with(1, new Code().end());
        due(rig, 1, 16, 0, 0, 8);
        due(rig, 1, 17, 0, 0, 8);
        due(rig, 1, 15, 0, 0, 0);
    }

    /** "becomes SECURE: free for applets, its bytes 0": those of the pages around it stay. */
    private static void protectZeros() {
        Rig rig = new Rig();
        rig.machine.boot();
        byte[] ones = new byte[768];
        Arrays.fill(ones, (byte) 1);
        rig.store(8 * 256, ones);
        due(rig, 1, 9, 0, 0, 0);
        Check.due("the byte ahead of it", rig.machine.load(9 * 256 - 1), 1);
        Check.due("its first byte", rig.machine.load(9 * 256), -1);
        Check.due("its last byte", rig.machine.load(10 * 256 - 1), -1);
        Check.due("the byte behind it", rig.machine.load(10 * 256), 1);
        due(rig, 2, 9, 0, 0, 0);
        Check.due("its bytes are 0", rig.memory(9 * 256, 256), new byte[256]);
        Check.due("those ahead are not", rig.memory(8 * 256, 256), Arrays.copyOf(ones, 256));
        Check.due("those behind are not", rig.memory(10 * 256, 256), Arrays.copyOf(ones, 256));
    }

    /** "RELEASE x: page 8 .. 23 (BAD), SECURE (NONE)". */
    private static void releasePages() {
        for (int page : new int[] {LOW, -1, 0, 7, 8, 23, 24, 31, 32, BIG}) {
            boolean good = page >= 8 && page <= 23;
            Rig rig = new Rig();
            rig.machine.boot();
            due(rig, 2, page, 0, 0, good ? 3 : 1);
            rig.machine.call(1, page, 0, 0);
            due(rig, 2, page, 0, 0, good ? 0 : 1);
            due(rig, 2, page, 0, 0, good ? 3 : 1);
        }
    }

    /** "and free (BUSY) becomes NORMAL". */
    private static void releaseNotFree() {
        Rig rig = Rig.with(2, new Code().end());
        due(rig, 2, 16, 0, 0, 8);
        due(rig, 2, 17, 0, 0, 8);
        Check.due("it is SECURE still", rig.machine.load(16 * 256), -1);
        due(rig, 2, 18, 0, 0, 0);
        Check.due("it is NORMAL", rig.machine.load(18 * 256), 0);
        Check.due("the next one is not", rig.machine.load(19 * 256), -1);
    }

    /** "y 1 .. 1024 .. (BAD)". */
    private static void loadSizes() {
        Rig rig = new Rig();
        rig.machine.boot();
        for (int y : new int[] {LOW, -1, 0, 1, 1024, 1025, BIG}) {
            due(rig, 3, 0, y, 0, y >= 1 && y <= 1024 ? 2 : 1);
        }
    }

    /** "and all in NORMAL pages (BAD)". */
    private static void loadPlaces() {
        Rig rig = new Rig();
        rig.machine.boot();
        rig.machine.call(1, 8, 0, 0);
        int[][] rows = {{-1, 1, 1}, {-1, 2, 1}, {LOW, 1024, 1}, {8 * 256 - 1, 1, 2}, {8 * 256 - 1, 2, 1}, {8 * 256, 1, 1},
            {9 * 256 - 1, 1, 1}, {9 * 256, 1, 2}, {7 * 256, 1024, 1}, {24 * 256 - 1024, 1024, 2}, {24 * 256 - 1023, 1024, 1},
            {24 * 256 - 1, 1, 2}, {24 * 256, 1, 1}, {8191, 1, 1}, {8192, 1, 1}, {BIG, 1, 1}, {BIG - 1023, 1024, 1}};
        for (int[] r : rows) {
            due(rig, 3, r[0], r[1], 0, r[2]);
        }
    }

    /** "its DIGEST that of an ENTRY (DENIED ..)": all 32 bytes of it, and no ENTRY that was not burnt. */
    private static void loadDenied() {
        byte[] image = ending(5);
        Rig rig = new Rig();
        rig.burn(image, 7);
        rig.start();
        rig.store(0, image);
        due(rig, 3, 0, image.length - 1, 0, 2);
        due(rig, 3, 0, image.length + 1, 0, 2);
        due(rig, 3, 1, image.length, 0, 2);
        for (int i = 0; i < image.length; i++) {
            byte[] other = image.clone();
            other[i] ^= 1;
            Check.due("LOAD with byte " + i + " changed", rig.bringIn(other), 2);
        }
        Check.due("LOAD", rig.bringIn(image), 0);
        Rig none = new Rig();
        none.start();
        Check.due("LOAD without any ENTRY", none.bringIn(image), 2);
    }

    /** "(.. the first such)": of two ENTRIES with one DIGEST. */
    private static void loadFirstSuch() {
        byte[] image = Code.image(1, new Code().sys(Code.SELF).op(Code.END));
        Rig rig = new Rig();
        rig.burn(ending(1), 7);
        rig.burn(image, 0);
        rig.burn(image, 7);
        rig.start();
        Check.due("LOAD", rig.bringIn(image), 0);
        Check.due("the ENTRY", rig.machine.result(0), 1);
        due(rig, 5, 2, 0, 0, 3);
        rig.open(1);
        Check.due("SELF", rig.invoke(0, 0), "ends 1");
        Check.due("it is in already", rig.bringIn(image), 8);
    }

    /** "whose VERSION is not below the LEAST of its PRODUCT (DENIED)": as high, and one below. */
    private static void loadVersions() {
        Rig rig = new Rig();
        for (int i = 0; i < 4; i++) {
            rig.burn(ending(i), 7);
            rig.machine.product(i, i == 3 ? 5 : 4, i == 3 ? 0 : 10 + i);
        }
        rig.start();
        Check.due("LOAD of 11", rig.bringIn(ending(1)), 0);
        due(rig, 14, 1, 0, 0, 0);
        due(rig, 4, 1, 0, 0, 0);
        Check.due("LOAD of 10", rig.bringIn(ending(0)), 2);
        Check.due("LOAD of 11 again", rig.bringIn(ending(1)), 0);
        due(rig, 4, 1, 0, 0, 0);
        Check.due("LOAD of 12", rig.bringIn(ending(2)), 0);
        Check.due("LOAD of 10 comes ahead of BUSY", rig.bringIn(ending(0)), 2);
        Check.due("LOAD of 11 is BUSY", rig.bringIn(ending(1)), 8);
        Check.due("LOAD of another PRODUCT", rig.bringIn(ending(3)), 0);
    }

    /** "not in already, nor another one of its PRODUCT (BUSY)". */
    private static void loadBusy() {
        Rig rig = new Rig();
        for (int i = 0; i < 3; i++) {
            rig.burn(ending(i), 7);
            rig.machine.product(i, i == 2 ? 1 : 0, 0);
        }
        rig.start();
        Check.due("LOAD 0", rig.bringIn(ending(0)), 0);
        Check.due("LOAD 0 again", rig.bringIn(ending(0)), 8);
        Check.due("LOAD 1 of its PRODUCT", rig.bringIn(ending(1)), 8);
        Check.due("LOAD 2 of another", rig.bringIn(ending(2)), 0);
        due(rig, 4, 0, 0, 0, 0);
        Check.due("LOAD 1 now", rig.bringIn(ending(1)), 0);
        Check.due("LOAD 0 now", rig.bringIn(ending(0)), 8);
    }

    /** "a byte 1 .. 4 ..; a byte k 1 .. 8 ..; the code, 1 byte at least; each beginning is below its length". */
    private static void loadForm() {
        byte[] eight = Arrays.copyOf(new byte[] {4, 8}, 19);
        byte[] eightBad = eight.clone();
        eightBad[17] = 1;
        byte[] far = Arrays.copyOf(new byte[] {1, 1, 1, 0}, 4 + 257);
        byte[] tooFar = Arrays.copyOf(new byte[] {1, 1, 1, 0}, 4 + 256);
        byte[] last = Arrays.copyOf(new byte[] {1, 1, 3, (byte) 251}, 1024);
        byte[] behind = Arrays.copyOf(new byte[] {1, 1, 3, (byte) 252}, 1024);
        byte[] high = Arrays.copyOf(new byte[] {1, 1, (byte) 255, (byte) 255}, 1024);
        byte[][] good = {{1, 1, 0, 0, 0}, {4, 1, 0, 0, 0}, {1, 1, 0, 0, 99}, {1, 1, 0, 1, 9, 0}, {1, 2, 0, 0, 0, 0, 0}, eight, far,
            last};
        byte[][] bad = {{0, 1, 0, 0, 0}, {5, 1, 0, 0, 0}, {-1, 1, 0, 0, 0}, {1, 0, 0, 0, 0}, {1, 9, 0, 0, 0},
            Arrays.copyOf(new byte[] {1, 9}, 1024), {1, -1, 0, 0, 0}, {1}, {1, 1}, {1, 1, 0}, {1, 1, 0, 0}, {1, 2, 0, 0, 0},
            {1, 2, 0, 0, 0, 0}, {1, 1, 0, 1, 0}, {1, 1, 1, 0, 0}, {1, 1, 0, -1, 0}, {1, 2, 0, 0, 0, 1, 0}, {1, 2, 0, 1, 0, 0, 0},
            Arrays.copyOf(eight, 18), eightBad, tooFar, behind, high};
        for (byte[] image : good) {
            Rig rig = new Rig();
            rig.burn(image, 7);
            rig.start();
            Check.due("LOAD of " + head(image), rig.bringIn(image), 0);
        }
        for (byte[] image : bad) {
            Rig rig = new Rig();
            rig.burn(image, 7);
            rig.start();
            Check.due("LOAD of " + head(image), rig.bringIn(image), 1);
            due(rig, 5, 0, 0, 0, 3);
            due(rig, 2, 16, 0, 0, 0);
        }
        Rig end = new Rig();
        end.burn(last, 7);
        end.start();
        end.bringIn(last);
        end.open(0);
        Check.due("the last byte of 1024 is a code", end.invoke(0, 0), "ends 0");
    }

    private static String head(byte[] image) {
        return image.length + " bytes " + Arrays.toString(Arrays.copyOf(image, 8));
    }

    /** "as many free pages as it wants (FULL ..)". */
    private static void loadFull() {
        for (int wants = 1; wants <= 4; wants++) {
            for (int free = 0; free <= 4; free++) {
                Rig rig = new Rig();
                byte[] image = Code.image(wants, new Code().push(256 * wants - 1).op(Code.LOADB, Code.END));
                rig.burn(image, 7);
                rig.machine.boot();
                for (int i = 0; i < free; i++) {
                    rig.machine.call(1, 8 + 5 * i, 0, 0);
                }
                Check.due("LOAD that wants " + wants + " of " + free, rig.bringIn(image), wants > free ? 4 : 0);
                for (int i = 0; i < free; i++) {
                    due(rig, 2, 8 + 5 * i, 0, 0, wants <= free && i < wants ? 8 : 0);
                }
                if (wants <= free) {
                    rig.open(0);
                    Check.due("its last byte", rig.invoke(0, 0), "ends 0");
                }
            }
        }
    }

    /** "the lowest ones are taken, its pages 0, 1, .. in their order, all bytes 0". */
    private static void loadLowest() {
        Code writes = new Code().word(0, 0x11111111).word(508, 0x22222222).word(764, 0x33333333).end();
        Code reads = new Code().push(0).op(Code.LOADW).push(508).op(Code.LOADW, Code.ADD).push(764).op(Code.LOADW, Code.ADD, Code.END);
        byte[] image = Code.image(3, writes, reads);
        Rig rig = new Rig();
        rig.burn(image, 7);
        rig.machine.boot();
        for (int page : new int[] {21, 8, 14, 11}) {
            rig.machine.call(1, page, 0, 0);
        }
        rig.bringIn(image);
        for (int page : new int[] {8, 11, 14}) {
            due(rig, 2, page, 0, 0, 8);
        }
        due(rig, 2, 21, 0, 0, 0);
        rig.open(0);
        Check.due("all bytes are 0", rig.invoke(0, 1), "ends 0");
        rig.invoke(0, 0);
        Check.due("its own bytes", rig.invoke(0, 1), "ends " + 0x66666666);
        due(rig, 4, 0, 0, 0, 0);
        rig.bringIn(image);
        rig.open(0);
        Check.due("all bytes are 0 when it comes in again", rig.invoke(0, 1), "ends 0");
    }

    /** "Of several reasons the first in the order told here": LOAD. */
    private static void loadOrder() {
        byte[] bad = {9, 1, 0, 0, 0};
        Rig rig = new Rig();
        rig.burn(ending(0), 7);
        rig.burn(bad, 7);
        rig.machine.product(1, 0, 0);
        rig.machine.boot();
        rig.machine.call(1, 20, 0, 0);
        Check.due("LOAD", rig.bringIn(ending(0)), 0);
        Check.due("BUSY comes ahead of BAD", rig.bringIn(bad), 8);
        due(rig, 4, 0, 0, 0, 0);
        due(rig, 2, 20, 0, 0, 0);
        Check.due("BAD comes ahead of FULL", rig.bringIn(bad), 1);
        Check.due("FULL", rig.bringIn(ending(0)), 4);
    }

    /** An IMAGE is copied when it comes in: the normal world may change its bytes then. */
    private static void loadAgain() {
        Rig rig = Rig.with(1, new Code().end(5));
        rig.store(Rig.IMAGE, new byte[40]);
        Check.due("its code stays", rig.invoke(0, 0), "ends 5");
        Check.due("LOAD of what is no image any more", rig.machine.call(3, 0, 10, 0), 2);
        Check.due("its code stays", rig.invoke(0, 0), "ends 5");
    }

    /** "UNLOAD x: APPLET x is in (NONE)". */
    private static void unloadNone() {
        Rig rig = several(new Code().end(0), new Code().end(1));
        for (int x : new int[] {-1, 2, 7, 8, LOW, BIG}) {
            due(rig, 4, x, 0, 0, 3);
            due(rig, 5, x, 0, 0, 3);
        }
        due(rig, 4, 1, 0, 0, 0);
        due(rig, 4, 1, 0, 0, 3);
        due(rig, 5, 1, 0, 0, 3);
        due(rig, 5, 0, 0, 0, 0);
    }

    private static Code asking(int x) {
        return new Code().sys(Code.ASK, x, 0).op(Code.END);
    }

    /** "and does not run for a session of another one (BUSY)". */
    private static void unloadBusy() {
        Rig rig = several(asking(1), new Code().push(1, 2).op(Code.END));
        rig.open(0);
        rig.open(1);
        due(rig, 12, 3, 0, 0, 0);
        Check.due("0 has asked 1", rig.invoke(0, 0), "code 9");
        due(rig, 4, 1, 0, 0, 8);
        Check.due("its own session is open still", rig.machine.call(8, 1, 0, 0), 0);
        due(rig, 4, 0, 0, 0, 0);
        due(rig, 4, 1, 0, 0, 0);
        Rig own = several(new Code().push(1, 2).op(Code.END));
        own.open(0);
        due(own, 12, 1, 0, 0, 0);
        Check.due("it runs for its own session", own.invoke(0, 0), "code 9");
        due(own, 4, 0, 0, 0, 0);
    }

    /** "its sessions end (as by CLOSE)": what they asked runs no more. */
    private static void unloadSessions() {
        Rig rig = several(asking(1), new Code().push(1, 2).op(Code.END));
        for (int i = 0; i < 4; i++) {
            rig.open(i % 2);
        }
        due(rig, 12, 3, 0, 0, 0);
        Check.due("0 has asked 1", rig.invoke(2, 0), "code 9");
        due(rig, 4, 0, 0, 0, 0);
        due(rig, 12, 0, 0, 0, 0);
        due(rig, 6, 0, 0, 0, 3);
        due(rig, 13, 2, 0, 0, 3);
        Check.due("1 does not run any more", rig.invoke(1, 0), "ends 2");
        Check.due("the least number", rig.open(1), 0);
    }

    /** "its pages are free, their bytes 0": those that GROW gave it, too. */
    private static void unloadPages() {
        Code grows = new Code().sys(Code.GROW).op(Code.DROP).word(0, -1).word(252, -1).word(256, -1).word(508, -1).end();
        Rig rig = Rig.with(1, grows);
        Check.due("GROW", rig.invoke(0, 0), "ends 0");
        due(rig, 2, 16, 0, 0, 8);
        due(rig, 2, 17, 0, 0, 8);
        due(rig, 4, 0, 0, 0, 0);
        for (int page = 16; page <= 17; page++) {
            due(rig, 2, page, 0, 0, 0);
            Check.due("page " + page, rig.memory(256 * page, 256), new byte[256]);
        }
    }

    /** "a session, the least number of 0 .. 15 that is not open (FULL)". */
    private static void openFull() {
        Rig rig = several(new Code().end(0), new Code().end(1));
        for (int i = 0; i < 16; i++) {
            Check.due("OPEN " + i, rig.open(i % 2), i);
        }
        due(rig, 5, 0, 0, 0, 4);
        due(rig, 5, 1, 0, 0, 4);
        due(rig, 5, 2, 0, 0, 3);
        due(rig, 6, 15, 0, 0, 0);
        Check.due("OPEN again", rig.open(1), 15);
        Check.due("of the other applet", rig.invoke(15, 0), "ends 1");
        due(rig, 5, 0, 0, 0, 4);
    }

    /** "the least number .. that is not open". */
    private static void openLeast() {
        Rig rig = several(new Code().end(0));
        for (int i = 0; i < 6; i++) {
            rig.open(0);
        }
        for (int x : new int[] {4, 0, 2}) {
            due(rig, 6, x, 0, 0, 0);
        }
        for (int x : new int[] {0, 2, 4, 6}) {
            Check.due("OPEN", rig.open(0), x);
        }
    }

    /** "CLOSE x: session x is open (NONE)". */
    private static void closeNone() {
        Rig rig = several(new Code().end(0));
        for (int x : new int[] {-1, 0, 15, 16, LOW, BIG}) {
            due(rig, 6, x, 0, 0, 3);
        }
        rig.open(0);
        due(rig, 6, 1, 0, 0, 3);
        due(rig, 6, 0, 0, 0, 0);
        due(rig, 6, 0, 0, 0, 3);
    }

    /** "it ends (what it was in the midst of, too)". */
    private static void closeInTheMidst() {
        Rig rig = several(asking(1), new Code().push(1, 2).op(Code.END));
        rig.open(0);
        rig.open(1);
        due(rig, 12, 4, 0, 0, 0);
        Check.due("0 has asked 1", rig.invoke(0, 0), "code 9");
        due(rig, 7, 1, 0, Rig.TOLD, 8);
        due(rig, 6, 0, 0, 0, 0);
        due(rig, 12, 0, 0, 0, 0);
        due(rig, 13, 0, 0, 0, 3);
        Check.due("1 is free", rig.invoke(1, 0), "ends 2");
        Check.due("0 is, too", rig.open(0), 0);
        Check.due("and begins anew", rig.invoke(0, 0), "ends 2");
    }

    /** "session x is open (NONE), not in the midst (BUSY), COMMAND y (BAD), which does not run (BUSY), 48 bytes (BAD)". */
    private static void invokeOrder() {
        Rig rig = Rig.with(1, new Code().push(1, 2).op(Code.END));
        rig.open(0);
        due(rig, 12, 1, 0, 0, 0);
        Check.due("in the midst", rig.invoke(0, 0), "code 9");
        due(rig, 7, 2, 9, -1, 3);
        due(rig, 7, 0, 9, -1, 8);
        due(rig, 7, 1, 9, -1, 1);
        due(rig, 7, 1, 0, -1, 8);
        due(rig, 6, 0, 0, 0, 0);
        due(rig, 7, 1, 0, -1, 1);
        due(rig, 7, 1, 0, Rig.TOLD, 9);
    }

    /** "COMMAND y of its APPLET (BAD)". */
    private static void invokeCommands() {
        Code[] eight = new Code[8];
        for (int i = 0; i < 8; i++) {
            eight[i] = new Code().end(10 + i);
        }
        Rig rig = Rig.with(1, eight);
        for (int y : new int[] {LOW, -1, 0, 1, 6, 7, 8, 9, 255, 256, BIG}) {
            if (y < 0 || y > 7) {
                due(rig, 7, 0, y, Rig.TOLD, 1);
            } else {
                Check.due("COMMAND " + y, rig.invoke(0, y), "ends " + (10 + y));
            }
        }
        Rig one = Rig.with(1, new Code().end(3));
        due(one, 7, 0, 1, Rig.TOLD, 1);
        Check.due("COMMAND 0 of one", one.invoke(0, 0), "ends 3");
    }

    /** "48 bytes from z on are NORMAL (BAD)". */
    private static void invokePlace() {
        Rig rig = Rig.with(1, new Code().end(3));
        rig.store(0, new byte[48]);
        due(rig, 1, 9, 0, 0, 0);
        int[][] rows = {{0, 0}, {-1, 1}, {-48, 1}, {LOW, 1}, {9 * 256 - 48, 0}, {9 * 256 - 47, 1}, {9 * 256 - 1, 1}, {9 * 256, 1},
            {10 * 256 - 1, 1}, {10 * 256, 0}, {WALL - 48, 0}, {WALL - 47, 1}, {WALL, 1}, {8144, 1}, {8192, 1}, {BIG - 47, 1}, {BIG, 1}};
        for (int[] r : rows) {
            due(rig, 7, 0, 0, r[0], r[1]);
        }
    }

    /** "anything else is BAD": a SORT above 6, as a word of four bytes. */
    private static void parameterSorts() {
        Rig rig = Rig.with(1, new Code().end(3));
        for (int i = 0; i < 4; i++) {
            for (int sort : new int[] {0, 1, 2, 3, 4, 5, 6, 7, 8, 255, 256, 260, 0x10001, 0x1000000, LOW, LOW + 1, BIG, -1}) {
                int[] words = new int[12];
                words[3 * i] = sort;
                rig.tell(words);
                Check.due("SORT " + sort + " of " + i, rig.invoke(0, 0), sort >= 0 && sort <= 6 ? "ends 3" : "code 1");
            }
        }
    }

    /** "b bytes, 0 .. 256". */
    private static void parameterSizes() {
        Rig rig = Rig.with(1, new Code().sys(Code.SIZE, 0).op(Code.END), new Code().end(3));
        for (int sort = 0; sort <= 6; sort++) {
            for (int b : new int[] {LOW, -256, -1, 0, 1, 255, 256, 257, 512, 65536, BIG}) {
                rig.tell(sort, Rig.BYTES, b);
                boolean good = sort < 4 || b >= 0 && b <= 256;
                Check.due("b " + b + " of SORT " + sort, rig.invoke(0, 1), good ? "ends 3" : "code 1");
                if (good && sort >= 4) {
                    rig.tell(sort, Rig.BYTES, b);
                    Check.due("its SIZE", rig.invoke(0, 0), "ends " + b);
                }
            }
        }
    }

    /** "from a on, all in NORMAL pages". */
    private static void parameterPlaces() {
        Rig rig = Rig.with(1, new Code().end(3));
        due(rig, 1, 10, 0, 0, 0);
        int[][] rows = {{-1, 1, 0}, {-1, 2, 0}, {LOW, 256, 0}, {0, 256, 1}, {10 * 256 - 1, 1, 1}, {10 * 256 - 1, 2, 0},
            {10 * 256, 1, 0}, {11 * 256 - 1, 1, 0}, {11 * 256 - 1, 2, 0}, {11 * 256, 1, 1}, {WALL - 256, 256, 1},
            {WALL - 255, 256, 0}, {WALL - 1, 1, 1}, {WALL, 1, 0}, {8191, 1, 0}, {8192, 1, 0}, {BIG, 1, 0}, {BIG - 255, 256, 0}};
        for (int sort = 1; sort <= 6; sort++) {
            for (int[] r : rows) {
                rig.tell(0, 0, 0, 0, 0, 0, 0, 0, 0, sort, r[0], r[1]);
                Check.due("SORT " + sort + " of " + r[1] + " at " + r[0], rig.invoke(0, 0), sort < 4 || r[2] == 1 ? "ends 3" : "code 1");
            }
        }
    }

    /** "(with b 0 a is of no matter)". */
    private static void emptyParameters() {
        Rig rig = Rig.with(1, new Code().end(3));
        for (int sort = 4; sort <= 6; sort++) {
            for (int a : new int[] {LOW, -1, 0, WALL, 8191, 8192, BIG}) {
                rig.tell(sort, a, 0);
                Check.due("SORT " + sort + " of nothing at " + a, rig.invoke(0, 0), "ends 3");
            }
        }
    }

    /** "All of it is copied at once": what the normal world writes later does not come in. */
    private static void copiedAtOnce() {
        Code sum = new Code().sys(Code.GETBYTE, 1, 1).sys(Code.FIRST, 0).op(Code.ADD).sys(Code.SORT, 2).op(Code.ADD, Code.END);
        Rig rig = Rig.with(1, sum);
        rig.store(Rig.BYTES, new byte[] {7, 8, 9});
        rig.tell(1, 100, 0, 4, Rig.BYTES, 2, 3, 0, 0);
        due(rig, 12, 1, 0, 0, 0);
        Check.due("in the midst", rig.invoke(0, 0), "code 9");
        rig.store(Rig.BYTES, new byte[3]);
        rig.tell(0, 0, 0, 0, 0, 0, 0, 0, 0);
        due(rig, 1, Rig.BYTES / 256, 0, 0, 0);
        due(rig, 12, 0, 0, 0, 0);
        Check.due("what was told", rig.resume(0), "ends 111");
        Rig twice = Rig.with(1, sum);
        twice.store(Rig.BYTES, new byte[] {7, 8, 9});
        twice.tell(2, 100, 0, 5, Rig.BYTES, 2, 3, 0, 0);
        Check.due("of SORTS that go out nothing comes in", twice.invoke(0, 0), "ends 3");
    }

    /** "if it has not ended or faulted with these, it is 9, it YIELDS (ahead of whatever would be next)". */
    private static void yields() {
        Code three = new Code().push(1, 2).op(Code.END);
        Code fault = new Code().push(1, 2).sys(Code.PANIC);
        Code strange = new Code().push(1, 2).raw(200);
        for (int slice = 1; slice <= 4; slice++) {
            String first = slice < 3 ? "code 9" : null;
            Rig rig = Rig.with(1, three, fault, strange);
            due(rig, 12, slice, 0, 0, 0);
            Check.due("END with a slice of " + slice, rig.invoke(0, 0), first == null ? "ends 2" : first);
            due(rig, 6, 0, 0, 0, 0);
            rig.open(0);
            Check.due("PANIC with a slice of " + slice, rig.invoke(0, 1), first == null ? "fault 8" : first);
            rig.machine.call(6, 0, 0, 0);
            rig.open(0);
            Check.due("a strange code with a slice of " + slice, rig.invoke(0, 2), first == null ? "fault 1" : first);
        }
        Rig two = Rig.with(1, three);
        due(two, 12, 2, 0, 0, 0);
        Check.due("two of three", two.invoke(0, 0), "code 9");
        for (int i = 0; i < 4; i++) {
            Check.due("result " + i, two.machine.result(i), 0);
        }
        Check.due("the last one", two.resume(0), "ends 2");
    }

    /** "If it ENDS: RESULT 0 is what it ends with". */
    private static void ends() {
        for (int w : new int[] {0, 1, -1, LOW, BIG}) {
            Rig rig = Rig.with(1, new Code().end(w));
            Check.due("a run that ends with " + w, rig.invoke(0, 0), "ends " + w);
            for (int i = 1; i < 4; i++) {
                Check.due("result " + i, rig.machine.result(i), 0);
            }
            Check.due("the session is open still", rig.invoke(0, 0), "ends " + w);
        }
    }

    /** "PARAMETER by PARAMETER, of 2 and 3 the two values ..., of 5 and 6 the bytes .. (of 5 all b of them, 0 where nothing was put)". */
    private static void goesOut() {
        Rig rig = Rig.with(1, new Code().end(3));
        for (int sort = 0; sort <= 6; sort++) {
            rig.store(Rig.BYTES, new byte[] {1, 2, 3, 4});
            rig.tell(0, 0, 0, sort, Rig.BYTES, 3);
            Check.due("SORT " + sort, rig.invoke(0, 0), "ends 3");
            Check.due("its words", rig.memory(Rig.TOLD + 16, 8), sort == 2 ? new byte[8] : new byte[] {0, 8, 0, 0, 3, 0, 0, 0});
            Check.due("its sort", rig.word(Rig.TOLD + 12), sort);
            Check.due("its bytes", rig.memory(Rig.BYTES, 4), sort == 5 ? new byte[] {0, 0, 0, 4} : new byte[] {1, 2, 3, 4});
        }
        Code puts = new Code().push(0x1234, 0, 0).sys(Code.PUTBYTE).push(9, 0, 1).sys(Code.PUTBYTE).end(3);
        Rig over = Rig.with(1, puts);
        over.tell(5, Rig.BYTES, 2, 5, Rig.BYTES, 1);
        over.invoke(0, 0);
        Check.due("the later PARAMETER's byte", over.machine.load(Rig.BYTES), 9);
        over.tell(5, Rig.BYTES + 1, 1, 5, Rig.BYTES, 256);
        over.invoke(0, 0);
        Check.due("all 256 of the later one", over.memory(Rig.BYTES, 3), new byte[] {9, 0, 0});
        over.tell(6, Rig.TOLD + 16, 4, 6, Rig.BYTES, 4);
        over.invoke(0, 0);
        Check.due("a place that was told stays, whatever comes there", over.machine.load(Rig.BYTES), 9);
        Check.due("the byte that came there", over.machine.load(Rig.TOLD + 16), 0x34);
    }

    /** "If it FAULTS ..: 5, RESULT 0 is the fault's number, nothing goes out, the session ends; the APPLET stays, its pages too." */
    private static void faults() {
        Code sets = new Code().push(7, 0).sys(Code.SETFIRST).push(7, 0, 1).sys(Code.PUTBYTE).word(0, 5).sys(Code.PANIC);
        Code reads = new Code().push(0).op(Code.LOADW, Code.END);
        Rig rig = Rig.with(1, sets, reads);
        rig.store(Rig.BYTES, new byte[] {1, 2});
        rig.tell(2, 100, 101, 5, Rig.BYTES, 2);
        Check.due("a fault", rig.invoke(0, 0), "fault 8");
        for (int i = 1; i < 4; i++) {
            Check.due("result " + i, rig.machine.result(i), 0);
        }
        Check.due("no value goes out", rig.word(Rig.TOLD + 4), 100);
        Check.due("no bytes go out", rig.memory(Rig.BYTES, 2), new byte[] {1, 2});
        due(rig, 6, 0, 0, 0, 3);
        due(rig, 2, 16, 0, 0, 8);
        Check.due("OPEN", rig.open(0), 0);
        Check.due("the pages have what was put there", rig.invoke(0, 1), "ends 5");
    }

    /** "CANCEL x: session x is open (NONE): it is CANCELLED (until it ends)". */
    private static void cancel() {
        Rig rig = Rig.with(1, new Code().sys(Code.CANCELLED).op(Code.END), new Code().sys(Code.PANIC));
        for (int x : new int[] {-1, 1, 15, 16, LOW, BIG}) {
            due(rig, 8, x, 0, 0, 3);
        }
        Check.due("not yet", rig.invoke(0, 0), "ends 0");
        due(rig, 8, 0, 0, 0, 0);
        due(rig, 8, 0, 0, 0, 0);
        Check.due("it is", rig.invoke(0, 0), "ends 1");
        Check.due("it is still", rig.invoke(0, 0), "ends 1");
        Check.due("a fault ends it", rig.invoke(0, 1), "fault 8");
        rig.open(0);
        Check.due("a new one is not", rig.invoke(0, 0), "ends 0");
        due(rig, 12, 1, 0, 0, 0);
        Rig late = Rig.with(1, new Code().push(1).op(Code.DROP).sys(Code.CANCELLED).op(Code.END));
        due(late, 12, 1, 0, 0, 0);
        Check.due("in the midst", late.invoke(0, 0), "code 9");
        due(late, 8, 0, 0, 0, 0);
        due(late, 12, 0, 0, 0, 0);
        Check.due("it is told of it", late.resume(0), "ends 1");
    }

    /** "DIGEST x y z: y bytes, 0 .. 1024". */
    private static void digestSizes() {
        Rig rig = new Rig();
        rig.machine.boot();
        byte[] text = Rig.rows(1024, 1);
        rig.store(0, text);
        for (int y : new int[] {LOW, -1, 0, 1, 55, 56, 63, 64, 1023, 1024, 1025, BIG}) {
            boolean good = y >= 0 && y <= 1024;
            rig.store(2000, new byte[34]);
            due(rig, 9, 0, y, 2001, good ? 0 : 1);
            byte[] due = new byte[34];
            if (good) {
                System.arraycopy(Model.sha(Arrays.copyOf(text, y)), 0, due, 1, 32);
            }
            Check.due("DIGEST of " + y, rig.memory(2000, 34), due);
        }
    }

    /** "from x on NORMAL, and 32 from z on (BAD)". */
    private static void digestPlaces() {
        Rig rig = new Rig();
        rig.machine.boot();
        due(rig, 1, 8, 0, 0, 0);
        int[][] rows = {{-1, 0, 0, 1}, {LOW, 0, 0, 1}, {8 * 256 - 1, 1, 0, 0}, {8 * 256 - 1, 2, 0, 1}, {8 * 256, 1, 0, 1},
            {8 * 256, 0, 0, 0}, {9 * 256, 1, 0, 0}, {24 * 256 - 1024, 1024, 0, 0}, {24 * 256 - 1023, 1024, 0, 1}, {24 * 256, 0, 0, 0},
            {8192, 0, 0, 0}, {BIG, 0, 0, 0}, {BIG, 1, 0, 1}, {0, 1, -1, 1}, {0, 1, LOW, 1}, {0, 1, 8 * 256 - 32, 0},
            {0, 1, 8 * 256 - 31, 1}, {0, 1, 9 * 256 - 1, 1}, {0, 1, 9 * 256, 0}, {0, 1, 24 * 256 - 32, 0}, {0, 1, 24 * 256 - 31, 1},
            {0, 0, 8160, 1}, {0, 0, 8192, 1}, {0, 0, BIG, 1}};
        for (int[] r : rows) {
            due(rig, 9, r[0], r[1], r[2], r[3]);
        }
    }

    /** "KEPT x: .. ENTRY x (0 .. 7, BAD) .. (each place of a NODE that names one is one) .. 6, if one is not WHOLE". */
    private static void kept() {
        Rig rig = Rig.with(1, new Code().sys(Code.PUT, 0, 1, 0, 1).op(Code.END));
        for (int x = -1; x <= 8; x++) {
            due(rig, 10, x, 0, 0, x < 0 || x > 7 ? 1 : 0);
        }
        due(rig, 10, LOW, 0, 0, 1);
        due(rig, 10, BIG, 0, 0, 1);
        rig.invoke(0, 0);
        Check.due("KEPT", rig.kept(0), "1 1 4");
        Check.due("KEPT of another", rig.kept(7), "0 1 4");
        for (int block = 0; block < 5; block++) {
            rig.machine.disk(block, 250, 1);
            due(rig, 10, 0, 0, 0, block < 4 ? 6 : 0);
            due(rig, 10, 7, 0, 0, block < 4 ? 6 : 0);
            due(rig, 10, 8, 0, 0, 1);
            rig.machine.disk(block, 250, 1);
        }
    }

    /** "SLICE x: 0 .. 20000 (BAD): a SLICE is x codes long; 0: without end (so at a boot)". */
    private static void slices() {
        Code turns = new Code().jump(Code.JUMP, 0);
        for (int x : new int[] {LOW, -1, 0, 1, 19999, 20000, 20001, BIG}) {
            Rig rig = Rig.with(1, turns);
            boolean good = x >= 0 && x <= 20000;
            due(rig, 12, x, 0, 0, good ? 0 : 1);
            Check.due("a run with SLICE " + x, rig.invoke(0, 0), good && x > 0 ? "code 9" : "fault 6");
        }
        Rig kept = Rig.with(1, new Code().push(1, 2).op(Code.END));
        due(kept, 12, 2, 0, 0, 0);
        due(kept, 12, 20001, 0, 0, 1);
        Check.due("a refused SLICE changes nothing", kept.invoke(0, 0), "code 9");
        due(kept, 12, 0, 0, 0, 0);
        Check.due("RESUME is for the SLICE that is told then", kept.resume(0), "ends 2");
    }

    /** "RESUME x: session x is open (NONE), in the midst of something (BAD)". */
    private static void resume() {
        Rig rig = Rig.with(1, new Code().push(1, 2, 3).op(Code.END));
        for (int x : new int[] {-1, 1, 15, 16, LOW, BIG}) {
            due(rig, 13, x, 0, 0, 3);
        }
        due(rig, 13, 0, 0, 0, 1);
        due(rig, 12, 1, 0, 0, 0);
        Check.due("INVOKE", rig.invoke(0, 0), "code 9");
        Check.due("RESUME", rig.resume(0), "code 9");
        Check.due("RESUME", rig.resume(0), "code 9");
        Check.due("RESUME", rig.resume(0), "ends 3");
        due(rig, 13, 0, 0, 0, 1);
        Code sets = new Code().push(7, 0).sys(Code.SETFIRST).end(3);
        Rig told = Rig.with(1, sets);
        told.tell(2, 1, 1);
        due(told, 12, 1, 0, 0, 0);
        Check.due("INVOKE", told.invoke(0, 0), "code 9");
        due(told, 12, 0, 0, 0, 0);
        due(told, 13, 0, 77, -1, 0);
        Check.due("the place z is the one told at INVOKE", told.word(Rig.TOLD + 4), 7);
    }

    /** "if at the end of the run not all places to which something goes out are NORMAL: 2, and nothing goes out". */
    private static void goesOutNoMore() {
        int[][] rows = {{2, 1, 1, 0, 0, 0, Rig.TOLD / 256, 2}, {1, 1, 1, 0, 0, 0, Rig.TOLD / 256, 0}, {5, Rig.BYTES, 1, 0, 0, 0, 8, 2},
            {6, Rig.BYTES, 1, 2, 5, 5, 8, 2}, {4, Rig.BYTES, 1, 2, 5, 5, 8, 0}, {5, Rig.BYTES, 0, 2, 5, 5, 8, 0},
            {5, Rig.BYTES + 255, 1, 2, 5, 5, 8, 2}, {5, Rig.BYTES + 256, 1, 2, 5, 5, 8, 0}, {5, Rig.BYTES - 1, 1, 2, 5, 5, 8, 0},
            {5, Rig.BYTES - 1, 2, 2, 5, 5, 8, 2}, {0, Rig.BYTES, 1, 6, Rig.BYTES, 256, 8, 2}};
        for (int[] r : rows) {
            Rig rig = Rig.with(1, new Code().push(1).op(Code.END));
            int z = 9 * 256 + 16;
            boolean own = r[6] == Rig.TOLD / 256;
            rig.tell(Arrays.copyOf(r, 6));
            rig.store(z, rig.memory(Rig.TOLD, 48));
            due(rig, 12, 1, 0, 0, 0);
            due(rig, 7, 0, 0, z, 9);
            due(rig, 1, own ? 9 : r[6], 0, 0, 0);
            due(rig, 13, 0, 0, 0, r[7]);
            if (r[7] == 2 && !own) {
                Check.due("nothing goes out", rig.word(z + 16), r[4]);
            }
            due(rig, 13, 0, 0, 0, 1);
            due(rig, 6, 0, 0, 0, 0);
        }
    }

    /** The same of the two words of SORTS 2 and 3: all eight bytes of them, and no other one of the 48. */
    private static void wordsGoOutNoMore() {
        for (int sort = 1; sort <= 3; sort++) {
            for (int i = 0; i < 4; i++) {
                for (int at = -1; at <= 13; at++) {
                    // byte number 'at' of the PARAMETER is the first one of page 10, which is not NORMAL at the end
                    Rig rig = Rig.with(1, new Code().push(1).op(Code.END));
                    int z = 10 * 256 - 12 * i - at;
                    rig.store(z + 12 * i, new byte[] {(byte) sort, 0, 0, 0, 1, 1, 1, 1, 1, 1, 1, 1});
                    due(rig, 12, 1, 0, 0, 0);
                    due(rig, 7, 0, 0, z, 9);
                    due(rig, 1, 10, 0, 0, 0);
                    due(rig, 13, 0, 0, 0, sort > 1 && at <= 11 ? 2 : 0);
                }
            }
        }
        for (int at = 3; at <= 13; at++) {
            // the byte ahead of number 'at' is the last one of page 10
            Rig rig = Rig.with(1, new Code().push(1).op(Code.END));
            int z = 11 * 256 - at;
            rig.store(z, new byte[] {2, 0, 0, 0, 1, 1, 1, 1, 1, 1, 1, 1});
            due(rig, 12, 1, 0, 0, 0);
            due(rig, 7, 0, 0, z, 9);
            due(rig, 1, 10, 0, 0, 0);
            due(rig, 13, 0, 0, 0, at > 4 ? 2 : 0);
        }
    }

    /** "4 bytes that come in": they do not go out, so what the normal world has written there since stays. */
    private static void comesInAlone() {
        for (int sort = 1; sort <= 6; sort++) {
            Rig rig = Rig.with(1, new Code().push(1).op(Code.END));
            rig.store(Rig.BYTES, new byte[] {1, 2, 3});
            rig.tell(sort, Rig.BYTES, 3);
            due(rig, 12, 1, 0, 0, 0);
            Check.due("in the midst", rig.invoke(0, 0), "code 9");
            rig.store(Rig.BYTES, new byte[] {7, 8, 9});
            rig.store(Rig.TOLD + 4, new byte[] {5, 5, 5, 5, 6, 6, 6, 6});
            Check.due("SORT " + sort, rig.resume(0), "ends 1");
            byte[] bytes = sort == 5 ? new byte[3] : sort == 6 ? new byte[] {1, 2, 3} : new byte[] {7, 8, 9};
            Check.due("the bytes of SORT " + sort, rig.memory(Rig.BYTES, 3), bytes);
            byte[] words = sort == 2 ? new byte[8] : sort == 3 ? new byte[] {0, 8, 0, 0, 3, 0, 0, 0} : new byte[] {5, 5, 5, 5, 6, 6, 6, 6};
            Check.due("the words of SORT " + sort, rig.memory(Rig.TOLD + 4, 8), words);
        }
    }

    /** "RAISE x: APPLET x is in (NONE), its VERSION above the LEAST of its PRODUCT (BAD): one WRITE ..: its COUNT one more". */
    private static void raise() {
        Rig rig = new Rig();
        for (int i = 0; i < 3; i++) {
            rig.burn(ending(i), 7);
            rig.machine.product(i, i == 2 ? 3 : 4, i + 1);
        }
        rig.start();
        for (int x : new int[] {-1, 0, 3, 8, LOW, BIG}) {
            due(rig, 14, x, 0, 0, 3);
        }
        rig.bringIn(ending(0));
        rig.bringIn(ending(2));
        due(rig, 14, 0, 0, 0, 0);
        Check.due("COUNT", rig.count(), 1);
        due(rig, 14, 0, 0, 0, 1);
        Check.due("COUNT", rig.count(), 1);
        due(rig, 14, 2, 0, 0, 0);
        Check.due("COUNT", rig.count(), 2);
        due(rig, 4, 0, 0, 0, 0);
        rig.bringIn(ending(1));
        due(rig, 14, 1, 0, 0, 0);
        due(rig, 14, 1, 0, 0, 1);
        Check.due("COUNT", rig.count(), 3);
    }

    /** "PUBLIC x: 32 bytes from x on NORMAL (BAD)". */
    private static void publicKey() {
        Rig rig = new Rig();
        rig.machine.boot();
        due(rig, 1, 8, 0, 0, 0);
        for (int x : new int[] {LOW, -1, 0, 8 * 256 - 32, 8 * 256 - 31, 8 * 256, 9 * 256 - 1, 9 * 256, 24 * 256 - 32, 24 * 256 - 31, 8160,
            8192, BIG}) {
            boolean good = x == 0 || x == 8 * 256 - 32 || x == 9 * 256 || x == 24 * 256 - 32;
            due(rig, 15, x, 0, 0, good ? 0 : 1);
        }
    }

    /** "PROVE x y z: APPLET x is in (NONE), 32 bytes from y on and 64 from z on NORMAL (BAD)". */
    private static void prove() {
        Rig rig = new Rig();
        rig.setKey(Rig.rows(32, 9));
        rig.burn(ending(0), 7);
        rig.burn(ending(1), 7);
        rig.machine.product(0, 0, 9999);
        rig.start();
        due(rig, 16, 0, 0, 0, 3);
        rig.bringIn(ending(0));
        rig.bringIn(ending(1));
        due(rig, 1, 9, 0, 0, 0);
        int[][] rows = {{-1, 0, 0, 3}, {2, 0, 0, 3}, {8, -1, -1, 3}, {0, -1, 0, 1}, {0, 0, -1, 1}, {0, 9 * 256 - 32, 0, 0}, {0, 9 * 256 - 31, 0, 1},
            {0, 10 * 256 - 1, 0, 1}, {0, 10 * 256, 0, 0}, {0, 0, 9 * 256 - 64, 0}, {0, 0, 9 * 256 - 63, 1}, {0, 0, 10 * 256 - 1, 1},
            {0, 0, 10 * 256, 0}, {0, WALL - 32, WALL - 64, 0}, {0, WALL - 31, WALL - 64, 1}, {0, WALL - 32, WALL - 63, 1}, {0, BIG, 0, 1},
            {0, 0, BIG, 1}, {LOW, 0, 0, 3}};
        for (int[] r : rows) {
            due(rig, 16, r[0], r[1], r[2], r[3]);
        }
        for (int i = 0; i < 16; i++) {
            rig.open(i < 3 ? 1 : 0);
        }
        byte[] asked = Rig.rows(32, 3);
        rig.store(300, asked);
        due(rig, 16, 0, 300, 300, 0);
        byte[] signed = ByteBuffer.allocate(76).put(Model.sha(ending(0))).put(asked).putInt(9999).putInt(0).putInt(13).array();
        Check.due("its signature, over what was asked, with 13 open", rig.memory(300, 64),
                PlainCurve.sign(Model.mac(Rig.rows(32, 9), new byte[] {1}), signed));
    }
}
