import java.util.Arrays;
import java.util.NoSuchElementException;

/**
 * The sentences of the document that name an edge, one test each: MEMORY, ROM and POWER of Part I, and the promises
 * 1 to 9, 11 to 13, 17 and 18. Each test has its sentence above it.
 */
public final class FaceEdgesTest {
    private static final int BIG = Integer.MAX_VALUE;
    private static final int LOW = Integer.MIN_VALUE;

    private FaceEdgesTest() {
    }

    public static void main(String[] args) {
        pagesAtABoot();
        secureForGood();
        allBytesAreZero();
        diskAtFirst();
        cellAtFirst();
        keyAtFirst();
        productAtFirst();
        versionAtFirst();
        romUntilTheFirstBoot();
        whatIsGone();
        whatStays();
        eachWriteIsOne();
        wholeOrNotAtAll();
        newObject();
        highestFirst();
        moreThanElevenHundred();
        onlyTheFirstCount();
        endRefused();
        burnOtherRights();
        burnWhenThereAreEight();
        burnKeepsTheTape();
        keyOfTooFew();
        keyEmptiesTheTape();
        productOfOthers();
        bootWhenNotDown();
        powerIsBack();
        powerForSoMany();
        powerBelowZero();
        resultBeforeAny();
        resultOfOthers();
        loadAtPages();
        storeAtPages();
        storeOfNothing();
        storeRefused();
        diskEdges();
        diskOfNone();
        replayBeforeAny();
        replayAndEdits();
        replayOfNone();
        Check.finish();
    }

    private static Code putting() {
        return new Code().text(0, "n").sys(Code.PUT, 0, 1, 0, 1).op(Code.END);
    }

    /** An applet of product 3 and version 5 that is in, so that RAISE can write. */
    private static Rig raising() {
        Rig rig = new Rig();
        rig.burn(Code.image(1, putting()), 7);
        rig.machine.product(0, 3, 5);
        rig.start();
        rig.bringIn(Code.image(1, putting()));
        rig.open(0);
        return rig;
    }

    private static Rig cut() {
        Rig rig = raising();
        rig.machine.power(0);
        Check.due("RAISE without power", rig.machine.call(14, 0, 0, 0), -1);
        return rig;
    }

    /* ---- Part I ---- */

    /** "At a boot pages 0 .. 23 are NORMAL, 24 .. 31 SECURE". */
    private static void pagesAtABoot() {
        Rig rig = new Rig();
        rig.machine.boot();
        for (int page = 0; page < 32; page++) {
            Check.due("the first byte of page " + page, rig.machine.load(256 * page), page < 24 ? 0 : -1);
            Check.due("the last byte of page " + page, rig.machine.load(256 * page + 255), page < 24 ? 0 : -1);
        }
    }

    /** "24 .. 31 SECURE for good (never free)". */
    private static void secureForGood() {
        byte[] image = Code.image(1, new Code().sys(Code.GROW).op(Code.END));
        Rig rig = new Rig();
        rig.burn(image, 7);
        rig.machine.boot();
        Check.due("LOAD when only those are SECURE", rig.bringIn(image), 4);
        for (int page = 24; page < 32; page++) {
            Check.due("RELEASE " + page, rig.machine.call(2, page, 0, 0), 1);
        }
        rig.machine.call(1, 23, 0, 0);
        Check.due("LOAD with one more", rig.bringIn(image), 0);
        rig.open(0);
        Check.due("GROW takes none of them", rig.invoke(0, 0), "ends 4");
    }

    /** "all bytes 0", at each boot. */
    private static void allBytesAreZero() {
        Rig rig = raising();
        byte[] ones = new byte[1024];
        Arrays.fill(ones, (byte) 1);
        for (int at = 0; at < 4096; at += 1024) {
            rig.store(at, ones);
        }
        rig.machine.power(0);
        rig.machine.call(14, 0, 0, 0);
        rig.machine.boot();
        for (int at = 0; at < 24 * 256; at++) {
            if (rig.machine.load(at) != 0) {
                Check.due("byte " + at + " behind a boot", rig.machine.load(at), 0);
            }
        }
        Check.due("the last one", rig.machine.load(4095), 0);
    }

    /** "The DISK has 64 BLOCKS of 256 bytes, all 0 at first". */
    private static void diskAtFirst() {
        Rig rig = new Rig();
        for (int block = 0; block < 64; block++) {
            Check.due("block " + block, rig.block(block), new byte[256]);
        }
    }

    /** "its COUNT (0 at first), .. its ROOT (none, 255, at first), .. for each PRODUCT a LEAST version (0 at first)". */
    private static void cellAtFirst() {
        Rig rig = new Rig();
        for (int i = 0; i < 8; i++) {
            rig.burn(Code.image(1, new Code().end(i)), 7);
        }
        rig.start();
        Check.due("COUNT", rig.count(), 0);
        for (int product = 0; product < 8; product++) {
            Check.due("KEPT of " + product, rig.kept(product), "0 0 0");
            Check.due("version 0 of product " + product, rig.bringIn(Code.image(1, new Code().end(product))), 0);
        }
    }

    /** "ROM has a KEY of 32 bytes (0 at first)". */
    private static void keyAtFirst() {
        Rig never = new Rig();
        never.start();
        never.machine.call(15, 100, 0, 0);
        Rig zeros = new Rig();
        zeros.setKey(new byte[32]);
        zeros.start();
        zeros.machine.call(15, 100, 0, 0);
        Check.due("the public key", never.memory(100, 32), zeros.memory(100, 32));
    }

    /** "each with a PRODUCT, 0 .. 7 (at first the ENTRY's number modulo 8)". */
    private static void productAtFirst() {
        Rig rig = new Rig();
        for (int i = 0; i < 8; i++) {
            rig.burn(Code.image(1, putting(), new Code().end(i)), 7);
        }
        rig.start();
        for (int i = 0; i < 8; i++) {
            rig.bringIn(Code.image(1, putting(), new Code().end(i)));
            Check.due("session", rig.open(i), i);
            Check.due("PUT of ENTRY " + i, rig.invoke(i, 0), "ends 0");
            Check.due("KEPT of PRODUCT " + i, rig.kept(i).startsWith("1 " + (i + 1) + " "), true);
        }
    }

    /** "and a VERSION, 0 .. 9999 (0 at first)": it is not above the LEAST then. */
    private static void versionAtFirst() {
        Rig rig = Rig.with(1, new Code().end());
        Check.due("RAISE of version 0", rig.machine.call(14, 0, 0, 0), 1);
        Rig one = new Rig();
        byte[] image = Code.image(1, new Code().end());
        one.burn(image, 7);
        one.machine.product(0, 0, 9999);
        one.start();
        one.bringIn(image);
        Check.due("RAISE to 9999", one.machine.call(14, 0, 0, 0), 0);
    }

    /** "ROM can be written until the first boot": not when the machine is DOWN again, either. */
    private static void romUntilTheFirstBoot() {
        Rig rig = cut();
        Check.due("it is down", rig.machine.isDown(), true);
        rig.feed(Rig.rows(40, 1));
        Check.due("burn", rig.machine.burn(7), -1);
        Check.due("key", rig.machine.key(), false);
        Check.due("product", rig.machine.product(0, 0, 0), false);
        Check.due("the tape stays", rig.machine.end(40), true);
        Check.due("boot", rig.machine.boot(), true);
        Check.due("burn behind a second boot", rig.machine.burn(7), -1);
        Check.due("key behind a second boot", rig.machine.key(), false);
        Check.due("product behind a second boot", rig.machine.product(0, 0, 0), false);
    }

    /** "then MEMORY, pages, applets and sessions are gone". */
    private static void whatIsGone() {
        Rig rig = raising();
        rig.store(77, new byte[] {9});
        rig.machine.call(12, 1, 0, 0);
        Check.due("in the midst", rig.invoke(0, 0), "code 9");
        rig.machine.power(0);
        rig.machine.call(14, 0, 0, 0);
        Check.due("load when it is down", rig.machine.load(77), -1);
        rig.machine.boot();
        Check.due("MEMORY", rig.machine.load(77), 0);
        Check.due("pages", rig.machine.call(2, 16, 0, 0), 3);
        Check.due("applets", rig.machine.call(4, 0, 0, 0), 3);
        Check.due("sessions", rig.machine.call(13, 0, 0, 0), 3);
        rig.machine.call(1, 16, 0, 0);
        Check.due("the applet comes in again", rig.bringIn(Code.image(1, putting())), 0);
        Check.due("the first session is the least again", rig.open(0), 0);
        Check.due("it is in the midst of nothing, and slices are without end", rig.invoke(0, 0), "ends 0");
    }

    /** "DISK, CELL and ROM stay". */
    private static void whatStays() {
        Rig rig = new Rig();
        byte[] older = Code.image(1, putting());
        byte[] newer = Code.image(1, putting(), new Code().end());
        rig.setKey(Rig.rows(32, 5));
        rig.burn(older, 7);
        rig.burn(newer, 7);
        rig.machine.product(0, 3, 5);
        rig.machine.product(1, 3, 6);
        rig.start();
        rig.bringIn(newer);
        rig.open(1);
        Check.due("PUT", rig.invoke(0, 0), "ends 0");
        Check.due("RAISE", rig.machine.call(14, 1, 0, 0), 0);
        rig.machine.call(15, 100, 0, 0);
        byte[] key = rig.memory(100, 32);
        byte[] root = rig.block(3);
        rig.machine.disk(40, 3, 4);
        rig.machine.power(0);
        Check.due("PUT without power", rig.invoke(0, 0), "code -1");
        rig.start();
        Check.due("the DISK", rig.block(3), root);
        Check.due("an edit of it", rig.machine.disk(40, 3, 0), 4);
        Check.due("the CELL's COUNT", rig.count(), 2);
        Check.due("the CELL's ROOT and SEAL", rig.kept(3), "1 1 4");
        Check.due("the CELL's LEAST", rig.bringIn(older), 2);
        Check.due("ROM's ENTRIES", rig.bringIn(newer), 0);
        rig.machine.call(15, 100, 0, 0);
        Check.due("ROM's KEY", rig.memory(100, 32), key);
    }

    /** "each writing of a BLOCK or of the CELL by the trusted world is one": RAISE is one, the PUT here five. */
    private static void eachWriteIsOne() {
        for (int k = 0; k < 8; k++) {
            Rig rig = raising();
            rig.machine.power(k);
            Check.due("RAISE with power for " + k, rig.machine.call(14, 0, 0, 0), k < 1 ? -1 : 0);
            if (k > 0) {
                Check.due("then PUT with power for " + k, rig.invoke(0, 0), k < 6 ? "code -1" : "ends 0");
            }
            Check.due("down with power for " + k, rig.machine.isDown(), k < 6);
        }
        Rig edits = raising();
        edits.machine.power(1);
        for (int i = 0; i < 10; i++) {
            edits.machine.disk(i, i, 1);
            edits.machine.replay(i);
        }
        Check.due("what the normal world does to the disk is none", edits.machine.call(14, 0, 0, 0), 0);
    }

    /** "(whole or not at all); the one for which no power is left is not done, and the machine is DOWN". */
    private static void wholeOrNotAtAll() {
        Rig rig = cut();
        rig.start();
        Check.due("COUNT", rig.count(), 0);
        rig.bringIn(Code.image(1, putting()));
        Check.due("the LEAST was not raised: RAISE", rig.machine.call(14, 0, 0, 0), 0);
        Rig all = raising();
        all.invoke(0, 0);
        for (int k = 0; k < 5; k++) {
            Rig part = raising();
            part.machine.power(k);
            part.invoke(0, 0);
            for (int block = 0; block < 5; block++) {
                Check.due("block " + block + " with power for " + k, part.block(block), block < k ? all.block(block) : new byte[256]);
            }
            part.machine.boot();
            Check.due("COUNT with power for " + k, part.count(), 0);
            Check.due("KEPT with power for " + k, part.kept(3), "0 0 0");
        }
    }

    /* ---- Promise 1 ---- */

    /** "DOWN, power for good, an empty tape." */
    private static void newObject() {
        TrustedMachine m = new TrustedMachine();
        Check.due("DOWN", m.isDown(), true);
        Check.due("a tape of nothing", m.end(0), true);
        Check.due("and not of one", m.end(1), false);
        Rig rig = raising();
        for (int i = 0; i < 20; i++) {
            Check.due("PUT " + i, rig.invoke(0, 0), "ends 0");
        }
        Check.due("power for good", rig.machine.isDown(), false);
    }

    /* ---- Promises 2 and 3 ---- */

    /** "Twenty bytes come behind the tape, of each number the highest first". */
    private static void highestFirst() {
        Rig rig = new Rig();
        rig.machine.boot();
        rig.machine.feed(0x80010203, 0xff040506, 0x7f070809, 0x000a0b0c, 0xfe0d0e0f);
        rig.machine.feed(1, 2, 3, 4, 5);
        rig.machine.store(0);
        byte[] due = {(byte) 128, 1, 2, 3, -1, 4, 5, 6, 127, 7, 8, 9, 0, 10, 11, 12, -2, 13, 14, 15,
            0, 0, 0, 1, 0, 0, 0, 2, 0, 0, 0, 3, 0, 0, 0, 4, 0, 0, 0, 5};
        Check.due("the bytes", rig.memory(0, 40), due);
        Check.due("no more", rig.machine.load(40), 0);
    }

    /** "false, changing nothing, when it would have more than 1100". */
    private static void moreThanElevenHundred() {
        Rig rig = new Rig();
        rig.machine.boot();
        for (int i = 0; i < 55; i++) {
            Check.due("feed " + i, rig.machine.feed(i, i, i, i, i), true);
        }
        Check.due("feed 55", rig.machine.feed(-1, -1, -1, -1, -1), false);
        Check.due("1101 are not there", rig.machine.end(1101), false);
        Check.due("store", rig.machine.store(0), true);
        Check.due("the last byte", rig.machine.load(1099), 54);
        Check.due("the one behind", rig.machine.load(1100), 0);
        Check.due("the first number's", rig.machine.load(23), 1);
        for (int n = 1079; n <= 1082; n++) {
            TrustedMachine m = new TrustedMachine();
            for (int i = 0; i < 55; i++) {
                m.feed(0, 0, 0, 0, 0);
            }
            m.end(n);
            Check.due("feed behind " + n, m.feed(0, 0, 0, 0, 0), n <= 1080);
            Check.due("its length", m.end(n + 20), n <= 1080);
            Check.due("its length", m.end(n), true);
        }
    }

    /** "Of the tape only the first n bytes count (what is fed then comes behind them)". */
    private static void onlyTheFirstCount() {
        for (int n = 0; n <= 20; n++) {
            Rig rig = new Rig();
            rig.machine.boot();
            rig.machine.feed(0x11111111, 0x11111111, 0x11111111, 0x11111111, 0x11111111);
            Check.due("end(" + n + ")", rig.machine.end(n), true);
            Check.due("end of one more", rig.machine.end(n + 1), false);
            rig.machine.feed(0x22222222, 0, 0, 0, 0);
            rig.machine.store(0);
            byte[] due = new byte[n + 21];
            Arrays.fill(due, 0, n, (byte) 0x11);
            Arrays.fill(due, n, n + 4, (byte) 0x22);
            Check.due("what is fed behind " + n, rig.memory(0, n + 21), due);
        }
    }

    /** "false, changing nothing, when it has not so many, or n is below 0". */
    private static void endRefused() {
        Rig rig = new Rig();
        rig.machine.boot();
        rig.machine.feed(1, 2, 3, 4, 5);
        for (int n : new int[] {-1, 21, LOW, BIG}) {
            Check.due("end(" + n + ")", rig.machine.end(n), false);
        }
        Check.due("all twenty are there", rig.machine.end(20), true);
        rig.machine.store(0);
        Check.due("the last of them", rig.machine.load(19), 5);
    }

    /* ---- Promises 4, 5 and 6 ---- */

    /** "NONE for other rights". */
    private static void burnOtherRights() {
        for (int rights : new int[] {-1, 8, LOW, BIG}) {
            Rig rig = new Rig();
            Check.due("burn(" + rights + ")", rig.machine.burn(rights), -1);
            Check.due("no ENTRY came of it", rig.machine.product(0, 0, 0), false);
            Check.due("the next one is 0", rig.machine.burn(0), 0);
        }
        Rig rig = new Rig();
        for (int rights = 0; rights < 8; rights++) {
            Check.due("burn(" + rights + ")", rig.machine.burn(rights), rights);
        }
    }

    /** "NONE .. when there are 8". */
    private static void burnWhenThereAreEight() {
        Rig rig = new Rig();
        for (int i = 0; i < 8; i++) {
            Check.due("burn " + i, rig.burn(Code.image(1, new Code().end(i)), 7), i);
        }
        for (int i = 8; i < 10; i++) {
            Check.due("burn " + i, rig.burn(Code.image(1, new Code().end(i)), 7), -1);
        }
        rig.start();
        Check.due("the eighth", rig.bringIn(Code.image(1, new Code().end(7))), 0);
        Check.due("its number", rig.machine.result(0), 7);
        Check.due("the ninth is none", rig.bringIn(Code.image(1, new Code().end(8))), 2);
    }

    /** "The DIGEST of the tape (which stays)". */
    private static void burnKeepsTheTape() {
        Rig rig = new Rig();
        rig.feed(Code.image(1, new Code().end(5)));
        int n = Code.image(1, new Code().end(5)).length;
        Check.due("burn", rig.machine.burn(7), 0);
        Check.due("burn of other rights", rig.machine.burn(8), -1);
        Check.due("the tape has so many", rig.machine.end(n + 1), false);
        Check.due("the tape has so many", rig.machine.end(n), true);
        rig.machine.boot();
        rig.machine.call(1, 16, 0, 0);
        rig.machine.store(0);
        Check.due("and is the image", rig.machine.call(3, 0, n, 0), 0);
    }

    /** "false, the tape stays, when there are fewer". */
    private static void keyOfTooFew() {
        for (int n : new int[] {0, 1, 31}) {
            Rig rig = new Rig();
            rig.feed(Rig.rows(n, 3));
            Check.due("key of " + n, rig.machine.key(), false);
            Check.due("the tape", rig.machine.end(n), true);
            rig.start();
            Check.due("store", rig.machine.store(200), true);
            Check.due("its bytes", rig.memory(200, n), Rig.rows(n, 3));
            rig.machine.call(15, 100, 0, 0);
            Check.due("the KEY is 0 still", rig.memory(100, 32), PlainCurve.publicKey(Model.mac(new byte[32], new byte[] {1})));
        }
    }

    /** "The tape's first 32 bytes (it is empty then) become the KEY". */
    private static void keyEmptiesTheTape() {
        for (int n : new int[] {32, 33, 1100}) {
            Rig rig = new Rig();
            rig.feed(Rig.rows(n, 3));
            Check.due("key of " + n, rig.machine.key(), true);
            Check.due("the tape is empty", rig.machine.end(1), false);
            Check.due("so there is no second key", rig.machine.key(), false);
            rig.start();
            rig.machine.call(15, 100, 0, 0);
            Check.due("the KEY", rig.memory(100, 32), PlainCurve.publicKey(Model.mac(Rig.rows(32, 3), new byte[] {1})));
        }
    }

    /** "false for others than said": nothing is changed by it. */
    private static void productOfOthers() {
        int[][] rows = {{-1, 1, 1, 0}, {1, 1, 1, 0}, {8, 1, 1, 0}, {LOW, 1, 1, 0}, {BIG, 1, 1, 0}, {0, -1, 1, 0}, {0, 8, 1, 0},
            {0, LOW, 1, 0}, {0, BIG, 1, 0}, {0, 1, -1, 0}, {0, 1, 10000, 0}, {0, 1, LOW, 0}, {0, 1, BIG, 0},
            {0, 0, 0, 1}, {0, 7, 9999, 1}, {0, 7, 0, 1}, {0, 0, 9999, 1}};
        for (int[] r : rows) {
            Rig rig = new Rig();
            byte[] image = Code.image(1, putting());
            rig.burn(image, 7);
            rig.machine.product(0, 2, 77);
            Check.due("product(" + r[0] + ", " + r[1] + ", " + r[2] + ")", rig.machine.product(r[0], r[1], r[2]), r[3] == 1);
            rig.start();
            rig.bringIn(image);
            rig.open(0);
            rig.invoke(0, 0);
            Check.due("its PRODUCT", rig.machine.disk(1, 0, 0), r[3] == 1 ? r[1] : 2);
            Check.due("RAISE", rig.machine.call(14, 0, 0, 0), r[3] == 1 && r[2] == 0 ? 1 : 0);
        }
    }

    /* ---- Promises 7, 8 and 9 ---- */

    /** "The machine starts: true; false when it is not DOWN": nothing is changed then. */
    private static void bootWhenNotDown() {
        Rig rig = raising();
        rig.store(9, new byte[] {9});
        rig.machine.call(12, 3, 0, 0);
        rig.machine.go(40);
        rig.machine.power(0);
        Check.due("VERSION", rig.machine.call(0, 0, 0, 0), 0);
        Check.due("boot", rig.machine.boot(), false);
        Check.due("the RESULT", rig.machine.result(0), 1);
        Check.due("MEMORY", rig.machine.load(9), 9);
        Check.due("pages", rig.machine.load(16 * 256), -1);
        Check.due("the PLACE", rig.machine.register(16), 40);
        Check.due("the applet, its session and the SLICE", rig.invoke(0, 0), "code 9");
        Check.due("the power", rig.machine.call(14, 0, 0, 0), -1);
        Check.due("it is down", rig.machine.isDown(), true);
    }

    /** "The power is back for good." */
    private static void powerIsBack() {
        Rig rig = cut();
        rig.machine.power(0);
        Check.due("boot", rig.machine.boot(), true);
        Check.due("not down", rig.machine.isDown(), false);
        rig.machine.call(1, 16, 0, 0);
        rig.bringIn(Code.image(1, putting()));
        rig.open(0);
        Check.due("RAISE", rig.machine.call(14, 0, 0, 0), 0);
        Check.due("PUT", rig.invoke(0, 0), "ends 0");
    }

    /** "The power lasts for k more WRITES": the latest number told counts. */
    private static void powerForSoMany() {
        Rig rig = raising();
        rig.machine.power(0);
        rig.machine.power(1);
        Check.due("RAISE", rig.machine.call(14, 0, 0, 0), 0);
        Check.due("not down by the last one that is done", rig.machine.isDown(), false);
        rig.machine.power(4);
        Check.due("PUT of five", rig.invoke(0, 0), "code -1");
        Rig most = raising();
        most.machine.power(BIG);
        Check.due("RAISE with the most", most.machine.call(14, 0, 0, 0), 0);
        Check.due("PUT with the most", most.invoke(0, 0), "ends 0");
    }

    /** "for good with k below 0". */
    private static void powerBelowZero() {
        for (int k : new int[] {-1, -2, LOW}) {
            Rig rig = raising();
            rig.machine.power(0);
            rig.machine.power(k);
            for (int i = 0; i < 5; i++) {
                Check.due("PUT " + i + " with " + k, rig.invoke(0, 0), "ends 0");
            }
        }
    }

    /* ---- Promise 11 ---- */

    /** "RESULT i of the latest call (0 before any)". */
    private static void resultBeforeAny() {
        Rig rig = new Rig();
        for (int i = 0; i < 4; i++) {
            Check.due("result(" + i + ") before any", rig.machine.result(i), 0);
        }
        rig.machine.boot();
        Check.due("result(0) behind a boot", rig.machine.result(0), 0);
        rig.machine.call(0, 0, 0, 0);
        Check.due("result(0) of VERSION", rig.machine.result(0), 1);
        rig.store(0, new byte[] {1});
        rig.machine.load(0);
        Check.due("other promises leave it", rig.machine.result(0), 1);
        rig.machine.call(17, 0, 0, 0);
        Check.due("a refused call is the latest then", rig.machine.result(0), 0);
    }

    /** "IndexOutOfBoundsException for others than 0 .. 3", whether the machine is DOWN or not. */
    private static void resultOfOthers() {
        for (int round = 0; round < 2; round++) {
            TrustedMachine m = new TrustedMachine();
            if (round == 1) {
                m.boot();
            }
            for (int i : new int[] {-1, 4, LOW, BIG, 0, 3}) {
                boolean thrown = false;
                try {
                    m.result(i);
                } catch (IndexOutOfBoundsException e) {
                    thrown = e.getClass() == IndexOutOfBoundsException.class;
                }
                Check.due("result(" + i + ") throws", thrown, i < 0 || i > 3);
            }
        }
    }

    /* ---- Promises 12 and 13 ---- */

    /** "The normal world's byte; NONE when it is not in a NORMAL page, or the machine is DOWN." */
    private static void loadAtPages() {
        Rig rig = new Rig();
        Check.due("load when it is down", rig.machine.load(0), -1);
        rig.machine.boot();
        rig.machine.call(1, 8, 0, 0);
        rig.store(8 * 256 - 1, new byte[] {(byte) 255});
        rig.store(9 * 256, new byte[] {(byte) 128});
        int[][] rows = {{8 * 256 - 1, 255}, {8 * 256, -1}, {9 * 256 - 1, -1}, {9 * 256, 128}, {0, 0}, {-1, -1}, {LOW, -1},
            {24 * 256 - 1, 0}, {24 * 256, -1}, {8191, -1}, {8192, -1}, {BIG, -1}};
        for (int[] r : rows) {
            Check.due("load(" + r[0] + ")", rig.machine.load(r[0]), r[1]);
        }
    }

    /** "false .. when not all of it lies in NORMAL pages". */
    private static void storeAtPages() {
        int[][] rows = {{8 * 256 - 3, 3, 1}, {8 * 256 - 2, 3, 0}, {8 * 256, 1, 0}, {9 * 256 - 1, 1, 0}, {9 * 256 - 1, 2, 0},
            {9 * 256, 1, 1}, {8 * 256 - 1, 258, 0}, {7 * 256, 1100, 0}, {0, 1100, 1}, {-1, 1, 0}, {-1, 2, 0}, {LOW, 1, 0},
            {24 * 256 - 1100, 1100, 1}, {24 * 256 - 1099, 1100, 0}, {24 * 256, 1, 0}, {8191, 1, 0}, {8191, 2, 0}, {8192, 1, 0},
            {BIG, 1, 0}, {BIG - 1099, 1100, 0}};
        for (int[] r : rows) {
            Rig rig = new Rig();
            rig.machine.boot();
            rig.machine.call(1, 8, 0, 0);
            Check.due("store of " + r[1] + " at " + r[0], rig.store(r[0], Rig.rows(r[1], 1)), r[2] == 1);
            if (r[2] == 1) {
                Check.due("its bytes", rig.memory(r[0], r[1]), Rig.rows(r[1], 1));
                Check.due("the tape is empty", rig.machine.end(1), false);
            }
        }
    }

    /** "(an empty one at a place below 0 does not)". */
    private static void storeOfNothing() {
        Rig rig = new Rig();
        Check.due("store of nothing when it is down", rig.machine.store(0), false);
        rig.machine.boot();
        rig.machine.call(1, 8, 0, 0);
        for (int at : new int[] {-1, LOW}) {
            Check.due("store of nothing at " + at, rig.machine.store(at), false);
        }
        for (int at : new int[] {0, 8 * 256, 24 * 256, 8191, 8192, BIG}) {
            Check.due("store of nothing at " + at, rig.machine.store(at), true);
        }
    }

    /** "changing nothing (the tape, too) .., or the machine is DOWN". */
    private static void storeRefused() {
        Rig rig = new Rig();
        rig.feed(Rig.rows(30, 2));
        Check.due("store when it is down", rig.machine.store(0), false);
        rig.machine.boot();
        Check.due("nothing came", rig.machine.load(0), 0);
        Check.due("store over the end", rig.machine.store(24 * 256 - 29), false);
        Check.due("nothing came", rig.memory(24 * 256 - 29, 29), new byte[29]);
        Check.due("the tape is as long", rig.machine.end(30), true);
        Check.due("store", rig.machine.store(0), true);
        Check.due("the tape was the same", rig.memory(0, 30), Rig.rows(30, 2));
    }

    /* ---- Promises 17 and 18 ---- */

    /** "Byte k of a BLOCK .. becomes itself xor the lowest eight bits of mask: what it is then." */
    private static void diskEdges() {
        int[][] rows = {{0, 0}, {0, 255}, {63, 0}, {63, 255}};
        for (int[] r : rows) {
            TrustedMachine m = new TrustedMachine();
            Check.due("all bits", m.disk(r[0], r[1], -1), 255);
            Check.due("the highest", m.disk(r[0], r[1], 128), 127);
            Check.due("none of the lowest eight", m.disk(r[0], r[1], 0xffffff00), 127);
            Check.due("more than eight", m.disk(r[0], r[1], 0x101), 126);
            Check.due("none", m.disk(r[0], r[1], 0), 126);
        }
        Rig rig = cut();
        Check.due("when it is down, too", rig.machine.disk(5, 5, 5), 5);
    }

    /** "NoSuchElementException: there is none." */
    private static void diskOfNone() {
        int[][] none = {{-1, 0}, {64, 0}, {LOW, 0}, {BIG, 0}, {0, -1}, {0, 256}, {0, LOW}, {0, BIG}, {63, 256}, {64, 255}, {-1, -1}};
        TrustedMachine m = new TrustedMachine();
        for (int[] at : none) {
            for (int mask = 0; mask < 2; mask++) {
                boolean thrown = false;
                try {
                    m.disk(at[0], at[1], mask);
                } catch (NoSuchElementException e) {
                    thrown = e.getClass() == NoSuchElementException.class;
                }
                Check.due("disk(" + at[0] + ", " + at[1] + ", " + mask + ") throws", thrown, true);
            }
        }
    }

    /** "A BLOCK becomes what it was before the latest writing of it (0s before any ..)". */
    private static void replayBeforeAny() {
        for (int block : new int[] {0, 31, 63}) {
            Rig rig = new Rig();
            rig.machine.disk(block, 0, 1);
            rig.machine.disk(block, 255, 1);
            Check.due("replay(" + block + ") of a block that has edits alone", rig.machine.replay(block), true);
            Check.due("it is 0s", rig.block(block), new byte[256]);
        }
        Rig written = raising();
        written.invoke(0, 0);
        Check.due("replay of a block that was written once", written.machine.replay(2), true);
        Check.due("it is 0s", written.block(2), new byte[256]);
    }

    /** "(.. edits that came since are lost, and those that came before it are there)". */
    private static void replayAndEdits() {
        Rig rig = raising();
        rig.machine.disk(0, 7, 70);
        rig.invoke(0, 0);
        byte[] first = rig.block(0);
        Check.due("the writing is whole, without the edit", rig.kept(3), "1 1 4");
        rig.machine.disk(0, 8, 80);
        rig.machine.replay(0);
        byte[] due = new byte[256];
        due[7] = 70;
        Check.due("behind one writing", rig.block(0), due);
        rig.machine.disk(0, 9, 90);
        rig.machine.replay(0);
        Check.due("a replay and an edit are no writings", rig.block(0), due);
        for (int k = 0; k < 256; k++) {
            rig.machine.disk(0, k, due[k] ^ first[k]);
        }
        rig.invoke(0, 0);
        rig.machine.disk(0, 9, 90);
        rig.invoke(0, 0);
        first[9] ^= 90;
        rig.machine.replay(0);
        Check.due("behind the second writing of it", rig.block(0), first);
        Rig down = raising();
        down.invoke(0, 0);
        down.machine.power(0);
        down.machine.call(14, 0, 0, 0);
        Check.due("when it is down, too", down.machine.replay(0), true);
        Check.due("it is 0s", down.block(0), new byte[256]);
    }

    /** "false when there is none such". */
    private static void replayOfNone() {
        for (int block : new int[] {-1, 64, LOW, BIG}) {
            Check.due("replay(" + block + ")", new TrustedMachine().replay(block), false);
        }
    }
}
