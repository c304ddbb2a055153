import java.lang.reflect.Constructor;
import java.lang.reflect.Field;
import java.lang.reflect.Method;
import java.math.BigInteger;
import java.util.Arrays;
import java.util.Random;

/**
 * The long numbers inside the class (the curve's, Poly1305's and those modulo the group's order) at the edges
 * of their limbs, which no call from outside comes to: SIGN, VERIFY, AGREE, SEAL and OPEN rest on them.
 */
public final class NumbersTest {
    private static final int[] STARTS = {0, 26, 51, 77, 102, 128, 153, 179, 204, 230};

    private final Random random = new Random(5);

    private NumbersTest() {
    }

    public static void main(String[] args) throws ReflectiveOperationException {
        NumbersTest test = new NumbersTest();
        test.products();
        test.packing();
        test.tags();
        test.sums();
        test.tagsOfTheRfc();
        test.scalars();
        Check.finish();
    }

    private static Method method(String owner, String name, Class<?>... takes) throws ReflectiveOperationException {
        Method m = Class.forName("TrustedMachine$" + owner).getDeclaredMethod(name, takes);
        m.setAccessible(true);
        return m;
    }

    private static Object field(Object of, String name) throws ReflectiveOperationException {
        Field f = of.getClass().getDeclaredField(name);
        f.setAccessible(true);
        return f.get(of);
    }

    private static Object make(String owner, Object... with) throws ReflectiveOperationException {
        Constructor<?> c = Class.forName("TrustedMachine$" + owner).getDeclaredConstructors()[0];
        c.setAccessible(true);
        return c.newInstance(with);
    }

    private static BigInteger value(long[] limbs) {
        BigInteger sum = BigInteger.ZERO;
        for (int i = 0; i < 10; i++) {
            sum = sum.add(BigInteger.valueOf(limbs[i]).shiftLeft(STARTS[i]));
        }
        return sum;
    }

    /** Limbs up to so many times their width, often just there, with all signs. */
    private long[] limbs(double widths) {
        long[] out = new long[10];
        int kind = random.nextInt(3);
        for (int i = 0; i < 10; i++) {
            long most = (long) (widths * (1L << 26 - (i & 1)));
            boolean atEdge = kind == 0 || kind == 1 && random.nextBoolean();
            out[i] = atEdge ? most : (long) (random.nextDouble() * most);
            out[i] = kind > 0 && random.nextBoolean() ? -out[i] : out[i];
        }
        return out;
    }

    private void products() throws ReflectiveOperationException {
        Method multiply = method("Curve", "multiply", long[].class, long[].class, long[].class);
        int wrong = 0;
        for (int i = 0; i < 20000; i++) {
            // in the class a factor is a sum of four products at most, each of half a width
            long[] f = limbs(2.1);
            long[] g = limbs(2.1);
            long[] h = new long[10];
            multiply.invoke(null, h, f, g);
            wrong += value(f).multiply(value(g)).subtract(value(h)).mod(PlainCurve.P).signum() == 0 ? 0 : 1;
            for (int k = 0; k < 10; k++) {
                wrong += Math.abs(h[k]) > 0.51 * (1L << 26 - (k & 1)) ? 1 : 0;
            }
        }
        Check.due("products modulo 2^255 - 19 that are wrong", wrong, 0);
    }

    private void packing() throws ReflectiveOperationException {
        Method pack = method("Curve", "pack", byte[].class, int.class, long[].class);
        Method unpack = method("Curve", "unpack", long[].class, byte[].class, int.class);
        int wrong = 0;
        for (int i = 0; i < 20000; i++) {
            long[] f = limbs(1.05);
            if (i < 80) {
                unpack.invoke(null, f, PlainCurve.lowestFirst(PlainCurve.P.add(BigInteger.valueOf(i - 60))), 0);
            } else if (i < 160) {
                f = new long[10];
                f[0] = i - 120;
            }
            byte[] out = new byte[34];
            pack.invoke(null, out, 1, f);
            byte[] packed = Arrays.copyOfRange(out, 1, 33);
            wrong += Arrays.equals(packed, PlainCurve.lowestFirst(value(f).mod(PlainCurve.P))) ? 0 : 1;
            unpack.invoke(null, f, out, 1);
            wrong += value(f).equals(PlainCurve.number(packed)) ? 0 : 1;
        }
        Check.due("numbers that are packed wrong", wrong, 0);
    }

    private void tags() throws ReflectiveOperationException {
        Object cipher = make("Cipher");
        Method poly = method("Cipher", "poly", int.class);
        byte[] key = (byte[]) field(cipher, "oneTime");
        byte[] text = (byte[]) field(cipher, "text");
        byte[] tag = (byte[]) field(cipher, "tag");
        BigInteger prime = BigInteger.ONE.shiftLeft(130).subtract(BigInteger.valueOf(5));
        int wrong = 0;
        for (int i = 0; i < 20000; i++) {
            random.nextBytes(key);
            if (i % 3 == 0) {
                // small factors leave the sum near the prime
                Arrays.fill(key, (byte) (i % 2 == 0 ? 255 : 0));
                Arrays.fill(key, 0, 16, (byte) 0);
                key[0] = (byte) (1 + random.nextInt(5));
            }
            int blocks = 1 + random.nextInt(4);
            for (int k = 0; k < 16 * blocks; k++) {
                text[k] = (byte) (k % 16 == 0 || i % 5 == 0 ? random.nextInt() : 255);
            }
            poly.invoke(cipher, 16 * blocks);
            byte[] clamped = Arrays.copyOf(key, 16);
            for (int k = 3; k < 16; k += 4) {
                clamped[k] &= 15;
                clamped[(k + 1) % 16] &= (byte) (k == 15 ? 255 : 252);
            }
            BigInteger sum = BigInteger.ZERO;
            for (int b = 0; b < blocks; b++) {
                sum = sum.add(PlainCurve.number(Arrays.copyOfRange(text, 16 * b, 16 * b + 16)).setBit(128))
                        .multiply(PlainCurve.number(clamped)).mod(prime);
            }
            sum = sum.add(PlainCurve.number(Arrays.copyOfRange(key, 16, 32)));
            wrong += Arrays.equals(tag, Arrays.copyOf(PlainCurve.lowestFirst(sum), 16)) ? 0 : 1;
        }
        Check.due("tags that are wrong", wrong, 0);
    }

    /** What Poly1305 has summed up, just below 2^130 - 5, at it and above it, with carries that go through all limbs. */
    private void sums() throws ReflectiveOperationException {
        Object cipher = make("Cipher");
        Method reduce = method("Cipher", "reduce");
        long[] sum = (long[]) field(cipher, "sum");
        BigInteger prime = BigInteger.ONE.shiftLeft(130).subtract(BigInteger.valueOf(5));
        int most = (1 << 26) - 1;
        int wrong = 0;
        for (int i = 0; i < 20000; i++) {
            for (int k = 0; k < 5; k++) {
                boolean atEdge = i % 4 != 0 || random.nextBoolean();
                sum[k] = atEdge ? most - (random.nextInt(8) == 0 ? random.nextInt(3) : 0) : random.nextInt(most + 1);
            }
            sum[0] = i % 3 == 0 ? sum[0] : most - random.nextInt(12);
            sum[1] += i % 2 == 0 ? random.nextInt(66) : 0;
            BigInteger before = BigInteger.ZERO;
            BigInteger behind = BigInteger.ZERO;
            for (int k = 0; k < 5; k++) {
                before = before.add(BigInteger.valueOf(sum[k]).shiftLeft(26 * k));
            }
            reduce.invoke(cipher);
            for (int k = 0; k < 5; k++) {
                wrong += sum[k] < 0 || sum[k] > most ? 1 : 0;
                behind = behind.add(BigInteger.valueOf(sum[k]).shiftLeft(26 * k));
            }
            wrong += behind.equals(before.mod(prime)) ? 0 : 1;
        }
        Check.due("sums modulo 2^130 - 5 that are wrong", wrong, 0);
    }

    /** RFC 8439, A.3, 7 to 11: the edges of Poly1305, as R, the text and the tag; S is 0 in all of them. */
    private void tagsOfTheRfc() throws ReflectiveOperationException {
        String ones = "ff".repeat(16);
        String[][] rows = {
            {"01" + "00".repeat(15), ones + "f0" + "ff".repeat(15) + "11" + "00".repeat(15), "05" + "00".repeat(15)},
            {"01" + "00".repeat(15), ones + "fb" + "fe".repeat(15) + "01".repeat(16), "00".repeat(16)},
            {"02" + "00".repeat(15), "fd" + "ff".repeat(15), "fa" + "ff".repeat(15)},
            {"0100000000000000" + "0400000000000000", "e33594d7505e43b900000000000000003394d7505e4379cd010000000000000000000000"
                + "0000000000000000000000000100000000000000" + "0000000000000000", "14000000000000005500000000000000"},
            {"0100000000000000" + "0400000000000000", "e33594d7505e43b900000000000000003394d7505e4379cd010000000000000000000000"
                + "000000000000000000000000", "13" + "00".repeat(15)}
        };
        Object cipher = make("Cipher");
        Method poly = method("Cipher", "poly", int.class);
        for (String[] r : rows) {
            byte[] text = java.util.HexFormat.of().parseHex(r[1]);
            byte[] key = (byte[]) field(cipher, "oneTime");
            Arrays.fill(key, (byte) 0);
            System.arraycopy(java.util.HexFormat.of().parseHex(r[0]), 0, key, 0, 16);
            System.arraycopy(text, 0, (byte[]) field(cipher, "text"), 0, text.length);
            poly.invoke(cipher, text.length);
            Check.due("the tag of " + r[1], (byte[]) field(cipher, "tag"), java.util.HexFormat.of().parseHex(r[2]));
        }
    }

    private void scalars() throws ReflectiveOperationException {
        Object signer = make("Signer", null, new byte[32]);
        Method reduce = method("Signer", "reduce", byte[].class, int.class);
        long[] digits = (long[]) field(signer, "digits");
        int wrong = 0;
        for (int i = 0; i < 20000; i++) {
            int most = i % 3 == 0 ? 256 : 32 * 255 * 255 + 256;
            BigInteger near = PlainCurve.L.multiply(BigInteger.valueOf(i / 3)).add(BigInteger.valueOf(i % 3 - 1));
            for (int k = 0; k < 64; k++) {
                digits[k] = i % 5 == 0 ? most - 1 : random.nextInt(most);
                if (i < 300) {
                    digits[k] = near.max(BigInteger.ZERO).shiftRight(8 * k).intValue() & 255;
                }
            }
            digits[63] = i % 3 == 0 ? digits[63] : 0;
            BigInteger sum = BigInteger.ZERO;
            for (int k = 0; k < 64; k++) {
                sum = sum.add(BigInteger.valueOf(digits[k]).shiftLeft(8 * k));
            }
            byte[] out = new byte[33];
            reduce.invoke(signer, out, 1);
            wrong += PlainCurve.number(Arrays.copyOfRange(out, 1, 33)).equals(sum.mod(PlainCurve.L)) ? 0 : 1;
        }
        Check.due("numbers modulo the group's order that are wrong", wrong, 0);
    }
}
