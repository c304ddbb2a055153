import java.nio.ByteBuffer;
import java.util.Arrays;

/** Promise 10, Part II: each call of the monitor, with its reasons in their order. */
public final class MonitorTest {
    private static final int BIG = Integer.MAX_VALUE;
    private static final int LOW = Integer.MIN_VALUE;

    private MonitorTest() {
    }

    public static void main(String[] args) {
        numbers();
        protectAndRelease();
        load();
        images();
        unload();
        sessions();
        invoke();
        parameters();
        outPlaces();
        outOverPages();
        digest();
        slices();
        raise();
        prove();
        Check.finish();
    }

    private static void due(Rig rig, int number, int x, int y, int z, int want) {
        Check.due("call(" + number + ", " + x + ", " + y + ", " + z + ")", rig.machine.call(number, x, y, z), want);
        if (want != 0 && want != 5) {
            for (int i = 0; i < 4; i++) {
                Check.due("result " + i + " of it", rig.machine.result(i), 0);
            }
        }
    }

    private static void numbers() {
        Rig rig = new Rig();
        due(rig, 0, 0, 0, 0, -1);
        rig.machine.boot();
        due(rig, 0, 9, 9, 9, 0);
        Check.due("VERSION", rig.machine.result(0), 1);
        for (int number : new int[] {-1, 17, 99, BIG, LOW}) {
            due(rig, number, 0, 0, 0, 1);
        }
    }

    private static void protectAndRelease() {
        Rig rig = new Rig();
        rig.machine.boot();
        for (int page : new int[] {7, 24, 0, 31, -1, 32, BIG, LOW}) {
            due(rig, 1, page, 0, 0, 1);
            due(rig, 2, page, 0, 0, 1);
        }
        rig.store(8 * 256, new byte[] {1, 2, 3});
        due(rig, 2, 8, 0, 0, 3);
        due(rig, 1, 8, 0, 0, 0);
        due(rig, 1, 8, 0, 0, 8);
        Check.due("a secure page", rig.machine.load(8 * 256), -1);
        Check.due("the page ahead of it", rig.machine.load(8 * 256 - 1), 0);
        due(rig, 2, 8, 0, 0, 0);
        Check.due("its bytes are 0 then", rig.machine.load(8 * 256), 0);
        due(rig, 1, 23, 0, 0, 0);
        due(rig, 2, 23, 0, 0, 0);
    }

    private static void load() {
        byte[] image = Code.image(2, new Code().end(5));
        Rig rig = new Rig();
        rig.burn(image, 7);
        rig.machine.boot();
        rig.store(0, image);
        int n = image.length;
        due(rig, 3, 0, 0, 0, 1);
        due(rig, 3, 0, 1025, 0, 1);
        due(rig, 3, 0, -1, 0, 1);
        due(rig, 3, -1, n, 0, 1);
        due(rig, 3, 24 * 256 - 1, 2, 0, 1);
        due(rig, 3, BIG, 1024, 0, 1);
        due(rig, 3, 0, n - 1, 0, 2);
        due(rig, 3, 1, n, 0, 2);
        due(rig, 3, 0, n, 0, 4);
        due(rig, 1, 20, 0, 0, 0);
        due(rig, 3, 0, n, 0, 4);
        due(rig, 1, 12, 0, 0, 0);
        due(rig, 3, 0, n, 0, 0);
        Check.due("the entry's number", rig.machine.result(0), 0);
        due(rig, 3, 0, n, 0, 8);
        due(rig, 2, 12, 0, 0, 8);
        due(rig, 2, 20, 0, 0, 8);
    }

    /** A digest that is burnt does not make an image: its form is looked at, too. */
    private static void images() {
        byte[][] bad = {
            {0, 1, 0, 0, 0}, {5, 1, 0, 0, 0}, {1, 0, 0, 0, 0}, {1, 9, 0, 0, 0}, {1, 1, 0, 1, 0}, {1, 1, 1, 0, 0}, {1},
            {1, 1}, {1, 1, 0, 0}, {1, 2, 0, 0, 0, 0}, {1, 2, 0, 0, 0, 1, 0}, {(byte) 255, 1, 0, 0, 0},
            {1, (byte) 255, 0, 0, 0}, Arrays.copyOf(new byte[] {1, 9}, 30)
        };
        byte[][] good = {{1, 1, 0, 0, 0}, {4, 2, 0, 0, 0, 0, 0}, Arrays.copyOf(new byte[] {1, 8}, 19)};
        for (int i = 0; i < bad.length; i++) {
            Rig rig = new Rig();
            rig.burn(bad[i], 7);
            rig.start();
            Check.due("image " + Arrays.toString(bad[i]), rig.bringIn(bad[i]), 1);
        }
        for (byte[] image : good) {
            Rig rig = new Rig();
            rig.burn(image, 7);
            rig.start();
            Check.due("image " + Arrays.toString(image), rig.bringIn(image), 0);
        }
        byte[] longest = new byte[1024];
        longest[0] = 1;
        longest[1] = 1;
        longest[2] = 3;
        longest[3] = (byte) 251;
        Rig rig = new Rig();
        rig.burn(longest, 7);
        rig.start();
        Check.due("the longest image", rig.bringIn(longest), 0);
        rig.open(0);
        Check.due("its last code", rig.invoke(0, 0), "ends 0");
    }

    private static void unload() {
        Code asks = new Code().sys(Code.ASK, 1, 0).op(Code.END);
        Code other = new Code().end(3);
        byte[] first = Code.image(1, asks);
        byte[] second = Code.image(2, other, new Code(other.size()).sys(Code.GROW).op(Code.END));
        Rig rig = new Rig();
        rig.burn(first, 7);
        rig.burn(second, 7);
        rig.start();
        rig.bringIn(first);
        rig.bringIn(second);
        for (int x : new int[] {-1, 2, 8, BIG, LOW}) {
            due(rig, 4, x, 0, 0, 3);
            due(rig, 5, x, 0, 0, 3);
        }
        rig.open(0);
        rig.open(1);
        rig.open(1);
        rig.machine.call(12, 4, 0, 0);
        Check.due("a run that has asked and yields", rig.invoke(0, 0), "code 9");
        due(rig, 4, 1, 0, 0, 8);
        due(rig, 7, 1, 0, Rig.TOLD, 8);
        due(rig, 6, 0, 0, 0, 0);
        Check.due("what it asked runs no more", rig.invoke(1, 0), "ends 3");
        Check.due("GROW", rig.invoke(1, 1), "ends 0");
        due(rig, 4, 1, 0, 0, 0);
        due(rig, 6, 1, 0, 0, 3);
        due(rig, 6, 2, 0, 0, 3);
        for (int page = 17; page <= 19; page++) {
            due(rig, 2, page, 0, 0, 0);
            Check.due("page " + page + " is 0", rig.machine.load(256 * page), 0);
        }
        due(rig, 2, 16, 0, 0, 8);
        rig.open(0);
        rig.machine.call(12, 1, 0, 0);
        Check.due("in the midst", rig.invoke(0, 0), "code 9");
        due(rig, 4, 0, 0, 0, 0);
        due(rig, 13, 0, 0, 0, 3);
    }

    private static void sessions() {
        Rig rig = Rig.with(1, new Code().sys(Code.CANCELLED).op(Code.END));
        for (int i = 1; i < 16; i++) {
            due(rig, 5, 0, 0, 0, 0);
            Check.due("session", rig.machine.result(0), i);
        }
        due(rig, 5, 0, 0, 0, 4);
        for (int x : new int[] {-1, 16, BIG, LOW}) {
            due(rig, 6, x, 0, 0, 3);
            due(rig, 7, x, 0, Rig.TOLD, 3);
            due(rig, 8, x, 0, 0, 3);
            due(rig, 13, x, 0, 0, 3);
        }
        due(rig, 6, 7, 0, 0, 0);
        due(rig, 6, 7, 0, 0, 3);
        due(rig, 6, 3, 0, 0, 0);
        due(rig, 5, 0, 0, 0, 0);
        Check.due("the least number", rig.machine.result(0), 3);
        due(rig, 8, 5, 0, 0, 0);
        Check.due("CANCELLED of it", rig.invoke(5, 0), "ends 1");
        Check.due("CANCELLED of another", rig.invoke(4, 0), "ends 0");
        Check.due("it stays", rig.invoke(5, 0), "ends 1");
        due(rig, 6, 5, 0, 0, 0);
        due(rig, 5, 0, 0, 0, 0);
        Check.due("until it ends", rig.invoke(5, 0), "ends 0");
    }

    private static void invoke() {
        Rig rig = Rig.with(1, new Code().end(1), new Code(6).sys(Code.PANIC));
        due(rig, 7, 1, 0, Rig.TOLD, 3);
        due(rig, 7, 0, 2, Rig.TOLD, 1);
        due(rig, 7, 0, -1, Rig.TOLD, 1);
        due(rig, 7, 0, BIG, Rig.TOLD, 1);
        due(rig, 7, 0, 0, -1, 1);
        due(rig, 7, 0, 0, 16 * 256 - 47, 1);
        due(rig, 7, 0, 0, BIG, 1);
        due(rig, 7, 0, 0, 16 * 256 - 48, 0);
        due(rig, 13, 0, 0, 0, 1);
        Check.due("a fault", rig.invoke(0, 1), "fault 8");
        for (int i = 1; i < 4; i++) {
            Check.due("result " + i + " of it", rig.machine.result(i), 0);
        }
        due(rig, 7, 0, 0, Rig.TOLD, 3);
        due(rig, 5, 0, 0, 0, 0);
        Check.due("the applet stays", rig.invoke(0, 0), "ends 1");
        due(rig, 12, 1, 0, 0, 0);
        due(rig, 5, 0, 0, 0, 0);
        due(rig, 7, 0, 0, Rig.TOLD, 9);
        due(rig, 7, 0, 5, -1, 8);
        due(rig, 7, 1, 5, -1, 1);
        due(rig, 7, 1, 0, -1, 8);
    }

    private static void parameters() {
        Rig rig = Rig.with(1, new Code().end(0));
        int[][] bad = {
            {7, 0, 0}, {-1, 0, 0}, {256, 0, 0}, {LOW, 0, 0}, {4, 0, 257}, {4, 0, -1}, {5, 0, 257}, {6, 0, LOW}, {4, -1, 1},
            {5, 16 * 256, 1}, {6, 16 * 256 - 1, 2}, {4, 8191, 1}, {5, 24 * 256, 1}, {4, BIG, 256}, {6, LOW, 256}
        };
        for (int i = 0; i < 4; i++) {
            for (int[] b : bad) {
                int[] words = new int[12];
                System.arraycopy(b, 0, words, 3 * i, 3);
                rig.tell(words);
                Check.due("parameter " + i + " " + Arrays.toString(b), rig.invoke(0, 0), "code 1");
            }
        }
        int[][] good = {{0, -1, -1}, {1, -1, -1}, {2, BIG, LOW}, {3, 1, 1}, {4, -1, 0}, {5, BIG, 0}, {6, LOW, 0},
            {4, 16 * 256 - 256, 256}, {5, 0, 1}, {6, 4, 256}};
        for (int[] g : good) {
            rig.tell(g);
            Check.due("parameter " + Arrays.toString(g), rig.invoke(0, 0), "ends 0");
        }
    }

    private static void outPlaces() {
        Code sets = new Code().push(11, 0).sys(Code.SETFIRST).push(12, 0).sys(Code.SETSECOND)
                .push(13, 1).sys(Code.SETSECOND).push(99, 1, 2).sys(Code.PUTBYTE).push(98, 0, 3).sys(Code.PUTBYTE).end(6);
        Code asked = new Code(sets.size()).end(6);
        Rig rig = Rig.with(1, sets, asked);
        rig.store(Rig.BYTES, new byte[] {1, 2, 3, 4, 5, 6, 7, 8});
        rig.tell(2, 77, 78, 3, 79, 80, 5, Rig.BYTES, 3, 6, Rig.BYTES + 4, 3);
        Check.due("what goes out", rig.invoke(0, 0), "ends 6");
        int[] due = {2, 11, 12, 3, 79, 13, 5, Rig.BYTES, 3, 6, Rig.BYTES + 4, 3};
        for (int i = 0; i < 12; i++) {
            Check.due("word " + i, rig.word(Rig.TOLD + 4 * i), due[i]);
        }
        Check.due("bytes", rig.memory(Rig.BYTES, 8), new byte[] {0, 99, 0, 4, 98, 6, 7, 8});

        rig.tell(2, 77, 78, 5, Rig.BYTES, 2);
        Check.due("nothing was put", rig.invoke(0, 1), "ends 6");
        Check.due("of 2 a 0", rig.word(Rig.TOLD + 4), 0);
        Check.due("of 2 a 0", rig.word(Rig.TOLD + 8), 0);
        Check.due("of 5 0s", rig.memory(Rig.BYTES, 3), new byte[] {0, 0, 0});

        rig.store(Rig.BYTES, new byte[] {1, 2, 3, 4, 5, 6, 7, 8});
        rig.tell(5, Rig.BYTES, 2, 1, 5, 6, 0, 0, 0, 6, Rig.BYTES, 1);
        Check.due("a fault", rig.invoke(0, 0), "fault 7");
        Check.due("nothing goes out", rig.memory(Rig.BYTES, 3), new byte[] {1, 2, 3});

        rig.machine.call(5, 0, 0, 0);
        rig.machine.call(12, 1, 0, 0);
        rig.tell(2, 77, 78, 5, Rig.BYTES, 2);
        Check.due("in the midst", rig.invoke(0, 1), "code 9");
        rig.machine.call(1, Rig.BYTES / 256, 0, 0);
        Check.due("its place is not normal any more", rig.resume(0), "code 2");
        Check.due("nothing goes out", rig.word(Rig.TOLD + 4), 77);
        rig.machine.call(2, Rig.BYTES / 256, 0, 0);
        Check.due("the run is over", rig.resume(0), "code 1");
        Check.due("the session is still open", rig.invoke(0, 1), "code 9");
        rig.tell(0, 0, 0);
        Check.due("parameters were copied at once", rig.resume(0), "ends 6");
        Check.due("words go where they stood", rig.word(Rig.TOLD + 4), 0);

        rig.machine.call(12, 1, 0, 0);
        rig.tell(5, Rig.BYTES, 1);
        Check.due("in the midst", rig.invoke(0, 1), "code 9");
        rig.machine.call(1, Rig.BYTES / 256, 0, 0);
        Check.due("a single byte's place is not normal any more", rig.resume(0), "code 2");
        rig.machine.call(2, Rig.BYTES / 256, 0, 0);
        rig.tell(5, Rig.BYTES, 0, 4, Rig.BYTES, 1);
        Check.due("in the midst", rig.invoke(0, 1), "code 9");
        rig.machine.call(1, Rig.BYTES / 256, 0, 0);
        Check.due("nothing goes out there", rig.resume(0), "ends 6");
        rig.machine.call(2, Rig.BYTES / 256, 0, 0);

        rig.machine.call(12, 0, 0, 0);
        rig.tell(5, Rig.TOLD + 16, 4, 2, 77, 78, 2, 9, 9, 6, Rig.TOLD + 32, 2);
        Check.due("one behind the other", rig.invoke(0, 1), "ends 6");
        Check.due("the later one counts", rig.word(Rig.TOLD + 16), 0);
        Check.due("the last one, too", rig.word(Rig.TOLD + 32), 9);
    }

    /** A parameter of values whose sort is in one page, and whose two words are in the next one. */
    private static void outOverPages() {
        for (int i = 0; i < 8; i++) {
            int parameter = i / 2;
            boolean first = i % 2 == 0;
            Rig rig = Rig.with(1, new Code().push(5, parameter).sys(Code.SETSECOND).end(6));
            int z = 10 * 256 - 4 - 12 * parameter;
            rig.store(z + 12 * parameter, new byte[] {2, 0, 0, 0, 1, 1, 1, 1, 1, 1, 1, 1});
            rig.machine.call(12, 1, 0, 0);
            due(rig, 7, 0, 0, z, 9);
            rig.machine.call(1, first ? 9 : 10, 0, 0);
            rig.machine.call(12, 0, 0, 0);
            due(rig, 13, 0, 0, 0, first ? 0 : 2);
            if (first) {
                Check.due("the second word", rig.word(10 * 256 + 4), 5);
            }
        }
        Rig last = Rig.with(1, new Code().push(5, 3).sys(Code.SETSECOND).end(6));
        last.store(16 * 256 - 12, new byte[] {2, 0, 0, 0, 1, 1, 1, 1, 1, 1, 1, 1});
        due(last, 7, 0, 0, 16 * 256 - 48, 0);
        Check.due("the last word ahead of a secure page", last.word(16 * 256 - 4), 5);
    }

    private static void digest() {
        Rig rig = new Rig();
        rig.machine.boot();
        byte[] text = Rig.rows(1024, 3);
        rig.store(0, text);
        for (int n : new int[] {0, 1, 55, 56, 63, 64, 65, 119, 120, 128, 1000, 1024}) {
            due(rig, 9, 0, n, 2000, 0);
            Check.due("DIGEST of " + n, rig.memory(2000, 32), Model.sha(Arrays.copyOf(text, n)));
        }
        due(rig, 9, 5, 40, 8, 0);
        Check.due("over itself", rig.memory(8, 32), Model.sha(Arrays.copyOfRange(text, 5, 45)));
        due(rig, 9, 0, 1025, 0, 1);
        due(rig, 9, 0, -1, 0, 1);
        due(rig, 9, -1, 1, 0, 1);
        due(rig, 9, -1, 0, 0, 1);
        due(rig, 9, 24 * 256, 1, 0, 1);
        due(rig, 9, 24 * 256 - 1, 1, 24 * 256 - 32, 0);
        due(rig, 9, 0, 1, 24 * 256 - 31, 1);
        due(rig, 9, 0, 1, -1, 1);
        due(rig, 9, 0, 1, BIG, 1);
        due(rig, 9, BIG, 1024, 0, 1);
        for (int x : new int[] {24 * 256, 8192, BIG}) {
            due(rig, 9, x, 0, 300, 0);
            Check.due("DIGEST of nothing at " + x, rig.memory(300, 32), Model.sha(new byte[0]));
        }
        due(rig, 10, -1, 0, 0, 1);
        due(rig, 10, 8, 0, 0, 1);
        due(rig, 10, 7, 0, 0, 0);
        due(rig, 11, 7, 0, 0, 0);
    }

    private static void slices() {
        Code five = new Code().push(1, 2, 3, 4).op(Code.END);
        Rig rig = Rig.with(1, five);
        due(rig, 12, -1, 0, 0, 1);
        due(rig, 12, 20001, 0, 0, 1);
        due(rig, 12, 20000, 0, 0, 0);
        Check.due("a long slice", rig.invoke(0, 0), "ends 4");
        due(rig, 12, 5, 0, 0, 0);
        Check.due("as long as the run", rig.invoke(0, 0), "ends 4");
        due(rig, 12, 4, 0, 0, 0);
        Check.due("one less", rig.invoke(0, 0), "code 9");
        due(rig, 7, 0, 0, Rig.TOLD, 8);
        Check.due("it goes on", rig.resume(0), "ends 4");
        due(rig, 12, 2, 0, 0, 0);
        Check.due("twos", rig.invoke(0, 0), "code 9");
        Check.due("twos", rig.resume(0), "code 9");
        Check.due("twos", rig.resume(0), "ends 4");
        due(rig, 13, 0, 0, 0, 1);
        Check.due("again", rig.invoke(0, 0), "code 9");
        due(rig, 6, 0, 0, 0, 0);
        due(rig, 13, 0, 0, 0, 3);
        due(rig, 5, 0, 0, 0, 0);
        due(rig, 12, 0, 0, 0, 0);
        Check.due("the run of a closed session is over", rig.invoke(0, 0), "ends 4");

        Code writes = new Code().sys(Code.PUT, 0, 0, 0, 1).op(Code.END);
        byte[] image = Code.image(1, writes);
        Rig booted = Rig.with(1, writes);
        due(booted, 12, 3, 0, 0, 0);
        Check.due("a slice of three", booted.invoke(0, 0), "code 9");
        booted.machine.power(0);
        Check.due("the power ends", booted.resume(0), "code -1");
        booted.start();
        booted.bringIn(image);
        booted.open(0);
        Check.due("at a boot slices are without end", booted.invoke(0, 0), "ends 0");
    }

    private static void raise() {
        byte[] image = Code.image(1, new Code().end(5));
        Rig rig = new Rig();
        rig.burn(image, 7);
        rig.machine.product(0, 3, 2);
        rig.start();
        due(rig, 14, 0, 0, 0, 3);
        due(rig, 14, -1, 0, 0, 3);
        due(rig, 14, 8, 0, 0, 3);
        rig.bringIn(image);
        due(rig, 14, 0, 0, 0, 0);
        Check.due("COUNT", rig.count(), 1);
        due(rig, 14, 0, 0, 0, 1);
        Check.due("COUNT", rig.count(), 1);
        Rig zero = Rig.with(1, new Code().end(5));
        due(zero, 14, 0, 0, 0, 1);
    }

    private static void prove() {
        byte[] image = Code.image(1, new Code().end(5));
        Rig rig = new Rig();
        byte[] key = Rig.rows(32, 77);
        rig.setKey(key);
        rig.burn(image, 7);
        rig.machine.product(0, 1, 9876);
        rig.start();
        byte[] secret = Model.mac(key, new byte[] {1});
        due(rig, 15, -1, 0, 0, 1);
        due(rig, 15, 16 * 256 - 31, 0, 0, 1);
        due(rig, 15, 16 * 256 - 32, 0, 0, 0);
        due(rig, 15, 500, 0, 0, 0);
        Check.due("PUBLIC", rig.memory(500, 32), PlainCurve.publicKey(secret));
        due(rig, 16, 0, 100, 200, 3);
        rig.bringIn(image);
        byte[] asked = Rig.rows(32, 5);
        rig.store(100, asked);
        due(rig, 16, -1, 100, 200, 3);
        due(rig, 16, 0, -1, 200, 1);
        due(rig, 16, 0, 100, 16 * 256 - 63, 1);
        due(rig, 16, 0, 16 * 256 - 31, 200, 1);
        due(rig, 16, 0, 16 * 256 - 32, 16 * 256 - 64, 0);
        for (int open = 0; open < 3; open++) {
            due(rig, 16, 0, 100, 200, 0);
            byte[] signed = ByteBuffer.allocate(76).put(Model.sha(image)).put(asked).putInt(9876).putInt(open > 1 ? 1 : 0)
                    .putInt(open).array();
            Check.due("PROVE with " + open + " open", rig.memory(200, 64), PlainCurve.sign(secret, signed));
            rig.open(0);
            if (open == 1) {
                rig.machine.call(14, 0, 0, 0);
            }
        }
    }
}
