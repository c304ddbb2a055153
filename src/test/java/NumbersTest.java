import java.lang.reflect.Constructor;
import java.lang.reflect.Field;
import java.lang.reflect.Method;
import java.math.BigInteger;
import java.util.Arrays;
import java.util.Random;

/**
 * The long numbers inside the class (the curve's, Poly1305's and those modulo the group's order) at the edges
 * of their limbs, which no call from outside comes to: SIGN, VERIFY, AGREE, SEAL and OPEN rest on them.
 */
public final class NumbersTest {
    private static final int[] STARTS = {0, 26, 51, 77, 102, 128, 153, 179, 204, 230};

    private final Random random = new Random(5);

    private NumbersTest() {
    }

    public static void main(String[] args) throws ReflectiveOperationException {
        NumbersTest test = new NumbersTest();
        test.products();
        test.packing();
        test.tags();
        test.scalars();
        Check.finish();
    }

    private static Method method(String owner, String name, Class<?>... takes) throws ReflectiveOperationException {
        Method m = Class.forName("TrustedMachine$" + owner).getDeclaredMethod(name, takes);
        m.setAccessible(true);
        return m;
    }

    private static Object field(Object of, String name) throws ReflectiveOperationException {
        Field f = of.getClass().getDeclaredField(name);
        f.setAccessible(true);
        return f.get(of);
    }

    private static Object make(String owner, Object... with) throws ReflectiveOperationException {
        Constructor<?> c = Class.forName("TrustedMachine$" + owner).getDeclaredConstructors()[0];
        c.setAccessible(true);
        return c.newInstance(with);
    }

    private static BigInteger value(long[] limbs) {
        BigInteger sum = BigInteger.ZERO;
        for (int i = 0; i < 10; i++) {
            sum = sum.add(BigInteger.valueOf(limbs[i]).shiftLeft(STARTS[i]));
        }
        return sum;
    }

    /** Limbs up to so many times their width, often just there, with all signs. */
    private long[] limbs(double widths) {
        long[] out = new long[10];
        int kind = random.nextInt(3);
        for (int i = 0; i < 10; i++) {
            long most = (long) (widths * (1L << 26 - (i & 1)));
            boolean atEdge = kind == 0 || kind == 1 && random.nextBoolean();
            out[i] = atEdge ? most : (long) (random.nextDouble() * most);
            out[i] = kind > 0 && random.nextBoolean() ? -out[i] : out[i];
        }
        return out;
    }

    private void products() throws ReflectiveOperationException {
        Method multiply = method("Curve", "multiply", long[].class, long[].class, long[].class);
        int wrong = 0;
        for (int i = 0; i < 20000; i++) {
            // in the class a factor is a sum of four products at most, each of half a width
            long[] f = limbs(2.1);
            long[] g = limbs(2.1);
            long[] h = new long[10];
            multiply.invoke(null, h, f, g);
            wrong += value(f).multiply(value(g)).subtract(value(h)).mod(PlainCurve.P).signum() == 0 ? 0 : 1;
            for (int k = 0; k < 10; k++) {
                wrong += Math.abs(h[k]) > 0.51 * (1L << 26 - (k & 1)) ? 1 : 0;
            }
        }
        Check.due("products modulo 2^255 - 19 that are wrong", wrong, 0);
    }

    private void packing() throws ReflectiveOperationException {
        Method pack = method("Curve", "pack", byte[].class, int.class, long[].class);
        Method unpack = method("Curve", "unpack", long[].class, byte[].class, int.class);
        int wrong = 0;
        for (int i = 0; i < 20000; i++) {
            long[] f = limbs(1.05);
            if (i < 80) {
                unpack.invoke(null, f, PlainCurve.lowestFirst(PlainCurve.P.add(BigInteger.valueOf(i - 60))), 0);
            } else if (i < 160) {
                f = new long[10];
                f[0] = i - 120;
            }
            byte[] out = new byte[34];
            pack.invoke(null, out, 1, f);
            byte[] packed = Arrays.copyOfRange(out, 1, 33);
            wrong += Arrays.equals(packed, PlainCurve.lowestFirst(value(f).mod(PlainCurve.P))) ? 0 : 1;
            unpack.invoke(null, f, out, 1);
            wrong += value(f).equals(PlainCurve.number(packed)) ? 0 : 1;
        }
        Check.due("numbers that are packed wrong", wrong, 0);
    }

    private void tags() throws ReflectiveOperationException {
        Object cipher = make("Cipher");
        Method poly = method("Cipher", "poly", int.class);
        byte[] key = (byte[]) field(cipher, "oneTime");
        byte[] text = (byte[]) field(cipher, "text");
        byte[] tag = (byte[]) field(cipher, "tag");
        BigInteger prime = BigInteger.ONE.shiftLeft(130).subtract(BigInteger.valueOf(5));
        int wrong = 0;
        for (int i = 0; i < 20000; i++) {
            random.nextBytes(key);
            if (i % 3 == 0) {
                // small factors leave the sum near the prime
                Arrays.fill(key, (byte) (i % 2 == 0 ? 255 : 0));
                Arrays.fill(key, 0, 16, (byte) 0);
                key[0] = (byte) (1 + random.nextInt(5));
            }
            int blocks = 1 + random.nextInt(4);
            for (int k = 0; k < 16 * blocks; k++) {
                text[k] = (byte) (k % 16 == 0 || i % 5 == 0 ? random.nextInt() : 255);
            }
            poly.invoke(cipher, 16 * blocks);
            byte[] clamped = Arrays.copyOf(key, 16);
            for (int k = 3; k < 16; k += 4) {
                clamped[k] &= 15;
                clamped[(k + 1) % 16] &= (byte) (k == 15 ? 255 : 252);
            }
            BigInteger sum = BigInteger.ZERO;
            for (int b = 0; b < blocks; b++) {
                sum = sum.add(PlainCurve.number(Arrays.copyOfRange(text, 16 * b, 16 * b + 16)).setBit(128))
                        .multiply(PlainCurve.number(clamped)).mod(prime);
            }
            sum = sum.add(PlainCurve.number(Arrays.copyOfRange(key, 16, 32)));
            wrong += Arrays.equals(tag, Arrays.copyOf(PlainCurve.lowestFirst(sum), 16)) ? 0 : 1;
        }
        Check.due("tags that are wrong", wrong, 0);
    }

    private void scalars() throws ReflectiveOperationException {
        Object signer = make("Signer", null, new byte[32]);
        Method reduce = method("Signer", "reduce", byte[].class, int.class);
        long[] digits = (long[]) field(signer, "digits");
        int wrong = 0;
        for (int i = 0; i < 20000; i++) {
            int most = i % 3 == 0 ? 256 : 32 * 255 * 255 + 256;
            BigInteger near = PlainCurve.L.multiply(BigInteger.valueOf(i / 3)).add(BigInteger.valueOf(i % 3 - 1));
            for (int k = 0; k < 64; k++) {
                digits[k] = i % 5 == 0 ? most - 1 : random.nextInt(most);
                if (i < 300) {
                    digits[k] = near.max(BigInteger.ZERO).shiftRight(8 * k).intValue() & 255;
                }
            }
            digits[63] = i % 3 == 0 ? digits[63] : 0;
            BigInteger sum = BigInteger.ZERO;
            for (int k = 0; k < 64; k++) {
                sum = sum.add(BigInteger.valueOf(digits[k]).shiftLeft(8 * k));
            }
            byte[] out = new byte[33];
            reduce.invoke(signer, out, 1);
            wrong += PlainCurve.number(Arrays.copyOfRange(out, 1, 33)).equals(sum.mod(PlainCurve.L)) ? 0 : 1;
        }
        Check.due("numbers modulo the group's order that are wrong", wrong, 0);
    }
}
