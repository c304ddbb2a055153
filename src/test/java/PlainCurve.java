import java.math.BigInteger;
import java.security.MessageDigest;
import java.util.Arrays;

/** Ed25519 and X25519 by BigInteger, straight from RFC 8032 and RFC 7748: slow, and plain to read. */
final class PlainCurve {
    static final BigInteger P = BigInteger.ONE.shiftLeft(255).subtract(BigInteger.valueOf(19));
    static final BigInteger L = BigInteger.ONE.shiftLeft(252)
            .add(new BigInteger("27742317777372353535851937790883648493"));
    static final BigInteger D = BigInteger.valueOf(-121665)
            .multiply(BigInteger.valueOf(121666).modInverse(P)).mod(P);
    static final BigInteger[] BASE = point(
            new BigInteger("15112221349535400772501151409588531511454012693041857206046113283949847762202"),
            new BigInteger("46316835694926478169428394003475163141307993866256225615783033603165251855960"));

    private PlainCurve() {
    }

    static BigInteger[] point(BigInteger x, BigInteger y) {
        return new BigInteger[] {x, y, BigInteger.ONE, x.multiply(y).mod(P)};
    }

    static BigInteger[] add(BigInteger[] p, BigInteger[] q) {
        BigInteger a = p[1].subtract(p[0]).multiply(q[1].subtract(q[0])).mod(P);
        BigInteger b = p[1].add(p[0]).multiply(q[1].add(q[0])).mod(P);
        BigInteger c = p[3].multiply(q[3]).multiply(D).shiftLeft(1).mod(P);
        BigInteger d = p[2].multiply(q[2]).shiftLeft(1).mod(P);
        BigInteger e = b.subtract(a);
        BigInteger f = d.subtract(c);
        BigInteger g = d.add(c);
        BigInteger h = b.add(a);
        return new BigInteger[] {e.multiply(f).mod(P), g.multiply(h).mod(P), f.multiply(g).mod(P), e.multiply(h).mod(P)};
    }

    static BigInteger[] times(BigInteger n, BigInteger[] p) {
        BigInteger[] sum = point(BigInteger.ZERO, BigInteger.ONE);
        for (int i = n.bitLength() - 1; i >= 0; i--) {
            sum = add(sum, sum);
            if (n.testBit(i)) {
                sum = add(sum, p);
            }
        }
        return sum;
    }

    static byte[] lowestFirst(BigInteger n) {
        byte[] out = new byte[32];
        for (int i = 0; i < 32; i++) {
            out[i] = n.shiftRight(8 * i).byteValue();
        }
        return out;
    }

    static BigInteger number(byte[] bytes) {
        byte[] turned = new byte[bytes.length];
        for (int i = 0; i < bytes.length; i++) {
            turned[bytes.length - 1 - i] = bytes[i];
        }
        return new BigInteger(1, turned);
    }

    static byte[] encode(BigInteger[] p) {
        BigInteger inverse = p[2].modInverse(P);
        BigInteger x = p[0].multiply(inverse).mod(P);
        byte[] out = lowestFirst(p[1].multiply(inverse).mod(P));
        if (x.testBit(0)) {
            out[31] |= (byte) 128;
        }
        return out;
    }

    /** Null when the bytes are no encoding of a point. */
    static BigInteger[] decode(byte[] bytes) {
        BigInteger all = number(bytes);
        boolean odd = all.testBit(255);
        BigInteger y = all.clearBit(255);
        if (y.compareTo(P) >= 0) {
            return null;
        }
        BigInteger yy = y.multiply(y);
        BigInteger square = yy.subtract(BigInteger.ONE)
                .multiply(yy.multiply(D).add(BigInteger.ONE).modInverse(P)).mod(P);
        BigInteger x = square.modPow(P.add(BigInteger.valueOf(3)).shiftRight(3), P);
        if (!x.multiply(x).mod(P).equals(square)) {
            x = x.multiply(BigInteger.TWO.modPow(P.subtract(BigInteger.ONE).shiftRight(2), P)).mod(P);
        }
        if (!x.multiply(x).mod(P).equals(square) || x.signum() == 0 && odd) {
            return null;
        }
        return point(x.testBit(0) == odd ? x : P.subtract(x), y);
    }

    static byte[] sha512(byte[]... parts) {
        try {
            MessageDigest digest = MessageDigest.getInstance("SHA-512");
            for (byte[] part : parts) {
                digest.update(part);
            }
            return digest.digest();
        } catch (java.security.GeneralSecurityException e) {
            throw new IllegalStateException(e);
        }
    }

    static BigInteger secretNumber(byte[] hash) {
        byte[] low = Arrays.copyOf(hash, 32);
        low[0] &= (byte) 248;
        low[31] = (byte) (low[31] & 127 | 64);
        return number(low);
    }

    static byte[] publicKey(byte[] secret) {
        return encode(times(secretNumber(sha512(secret)), BASE));
    }

    static byte[] sign(byte[] secret, byte[] message) {
        byte[] hash = sha512(secret);
        BigInteger a = secretNumber(hash);
        BigInteger r = number(sha512(Arrays.copyOfRange(hash, 32, 64), message)).mod(L);
        byte[] point = encode(times(r, BASE));
        BigInteger k = number(sha512(point, publicKey(secret), message)).mod(L);
        byte[] out = Arrays.copyOf(point, 64);
        System.arraycopy(lowestFirst(k.multiply(a).add(r).mod(L)), 0, out, 32, 32);
        return out;
    }

    static boolean verifies(byte[] open, byte[] message, byte[] signature) {
        BigInteger[] a = decode(open);
        BigInteger[] r = decode(Arrays.copyOf(signature, 32));
        BigInteger s = number(Arrays.copyOfRange(signature, 32, 64));
        if (a == null || r == null || s.compareTo(L) >= 0) {
            return false;
        }
        BigInteger k = number(sha512(Arrays.copyOf(signature, 32), open, message)).mod(L);
        return Arrays.equals(encode(times(s, BASE)), encode(add(r, times(k, a))));
    }

    static byte[] agree(byte[] number, byte[] u) {
        BigInteger k = secretNumber(number);
        byte[] masked = u.clone();
        masked[31] &= 127;
        BigInteger x1 = number(masked).mod(P);
        BigInteger x2 = BigInteger.ONE;
        BigInteger z2 = BigInteger.ZERO;
        BigInteger x3 = x1;
        BigInteger z3 = BigInteger.ONE;
        for (int i = 254; i >= 0; i--) {
            boolean swap = k.testBit(i);
            BigInteger xa = swap ? x3 : x2;
            BigInteger za = swap ? z3 : z2;
            BigInteger xb = swap ? x2 : x3;
            BigInteger zb = swap ? z2 : z3;
            BigInteger aa = xa.add(za).pow(2).mod(P);
            BigInteger bb = xa.subtract(za).pow(2).mod(P);
            BigInteger e = aa.subtract(bb);
            BigInteger da = xb.subtract(zb).multiply(xa.add(za));
            BigInteger cb = xb.add(zb).multiply(xa.subtract(za));
            xb = da.add(cb).pow(2).mod(P);
            zb = da.subtract(cb).pow(2).multiply(x1).mod(P);
            xa = aa.multiply(bb).mod(P);
            za = e.multiply(aa.add(e.multiply(BigInteger.valueOf(121665)))).mod(P);
            x2 = swap ? xb : xa;
            z2 = swap ? zb : za;
            x3 = swap ? xa : xb;
            z3 = swap ? za : zb;
        }
        return lowestFirst(x2.multiply(z2.modPow(P.subtract(BigInteger.TWO), P)).mod(P));
    }
}
