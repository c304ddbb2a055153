import java.util.NoSuchElementException;
import java.util.Random;

/** All calls with numbers of every size, in every state: only what the document names is thrown. */
public final class ExtremesTest {
    private static final int[] NUMBERS = {
        Integer.MIN_VALUE, Integer.MIN_VALUE + 1, -8193, -257, -256, -5, -2, -1, 0, 1, 2, 3, 4, 5, 6, 7, 8, 9, 10, 11, 12, 13, 14,
        15, 16, 17, 18, 23, 24, 31, 32, 33, 63, 64, 255, 256, 257, 1000, 1001, 1023, 1024, 1025, 1100, 1101, 2047, 2048, 6143, 6144,
        8144, 8160, 8188, 8191, 8192, 8193, 19999, 20000, 20001, 65535, 65536, Integer.MAX_VALUE - 255, Integer.MAX_VALUE - 3,
        Integer.MAX_VALUE
    };

    private final Random random = new Random(11);

    private ExtremesTest() {
    }

    public static void main(String[] args) {
        ExtremesTest test = new ExtremesTest();
        for (int i = 0; i < 300; i++) {
            test.run();
        }
        test.allSys();
        Check.finish();
    }

    private int number() {
        return random.nextInt(20) == 0 ? random.nextInt() : NUMBERS[random.nextInt(NUMBERS.length)];
    }

    private void run() {
        Code c = new Code();
        for (int i = 0; i < 6; i++) {
            c.push(number(), number(), number(), number(), number());
            c.sys(random.nextInt(33));
        }
        Rig rig = random.nextBoolean() ? new Rig() : Rig.with(1 + random.nextInt(4), c, new Code(c.size()).end());
        TrustedMachine m = rig.machine;
        for (int i = 0; i < 120; i++) {
            try {
                any(m);
                Check.due("a call", true, true);
            } catch (RuntimeException e) {
                Check.due("a call threw " + e, true, false);
            }
        }
    }

    private void any(TrustedMachine m) {
        int x = number();
        int y = number();
        int z = number();
        switch (random.nextInt(20)) {
            case 0: m.feed(x, y, z, x, y); break;
            case 1: m.end(x); break;
            case 2: m.burn(x); break;
            case 3: m.key(); break;
            case 4: m.product(x, y, z); break;
            case 5: m.boot(); break;
            case 6: m.power(x); break;
            case 7: m.isDown(); break;
            case 8: indexed(m, true, x); break;
            case 9: m.load(x); break;
            case 10: m.store(x); break;
            case 11: m.go(x); break;
            case 12: m.walk(x); break;
            case 13: indexed(m, false, x); break;
            case 14: edited(m, x, y, z); break;
            case 15: m.replay(x); break;
            default: m.call(random.nextInt(3) == 0 ? 7 : random.nextInt(18), x, y, z); break;
        }
    }

    private static void indexed(TrustedMachine m, boolean result, int i) {
        boolean thrown = false;
        try {
            if (result) {
                m.result(i);
            } else {
                m.register(i);
            }
        } catch (IndexOutOfBoundsException e) {
            thrown = e.getClass() == IndexOutOfBoundsException.class;
        }
        Check.due("result or register " + i + " throws", thrown, i < 0 || i > (result ? 3 : 17));
    }

    private static void edited(TrustedMachine m, int block, int k, int mask) {
        boolean thrown = false;
        try {
            m.disk(block, k, mask);
        } catch (NoSuchElementException e) {
            thrown = true;
        }
        Check.due("disk " + block + " " + k + " throws", thrown, block < 0 || block > 63 || k < 0 || k > 255);
    }

    /** Each SYS with each number for all that it takes. */
    private void allSys() {
        for (int n = 0; n <= 32; n++) {
            for (int number : NUMBERS) {
                Code c = new Code().push(number, number, number, number, number).sys(n).end();
                try {
                    String outcome = Rig.with(4, c).invoke(0, 0);
                    Check.due("SYS " + n + " of " + number, outcome.startsWith("ends") || outcome.startsWith("fault"), true);
                } catch (RuntimeException e) {
                    Check.due("SYS " + n + " of " + number + " threw " + e, true, false);
                }
            }
        }
    }
}
