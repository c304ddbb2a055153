import java.math.BigInteger;
import java.security.KeyFactory;
import java.security.Signature;
import java.security.spec.EdECPoint;
import java.security.spec.EdECPublicKeySpec;
import java.security.spec.NamedParameterSpec;
import java.util.Arrays;
import java.util.HexFormat;
import javax.crypto.Cipher;
import javax.crypto.spec.IvParameterSpec;
import javax.crypto.spec.SecretKeySpec;

/** Promise 10: MAKE, SEAL, OPEN, SIGN, VERIFY, PUBLIC and AGREE against the Java library and the RFCs. */
public final class CipherTest {
    private static final byte[] KEY = Rig.rows(32, 201);

    private CipherTest() {
    }

    public static void main(String[] args) throws Exception {
        make();
        makeBehindBoot();
        seal();
        sealOneBehindTheOther();
        open();
        sign();
        signWithManyKeys();
        verify();
        verifyManyKeys();
        verifyOddPoints();
        agree();
        oneBehindTheOther();
        ranges();
        Check.finish();
    }

    private static byte[] hex(String text) {
        return HexFormat.of().parseHex(text);
    }

    /** Applet 2 of a machine with the KEY, its PRODUCT 5. */
    private static Rig keyed(int pages, Code... commands) {
        Rig rig = new Rig();
        rig.setKey(KEY);
        rig.burn(new byte[1], 0);
        rig.burn(new byte[2], 0);
        byte[] image = Code.image(pages, commands);
        rig.burn(image, 7);
        rig.machine.product(2, 5, 0);
        rig.start();
        rig.bringIn(image);
        rig.open(2);
        return rig;
    }

    private static void make() {
        Code c = new Code().sys(Code.MAKE, 0, 200).giveOut(0, 200, 1).end();
        Rig rig = keyed(1, c);
        for (int i = 0; i < 3; i++) {
            rig.tell(0, 0, 0, 5, Rig.BYTES, 200);
            Check.due("MAKE", rig.invoke(0, 0), "ends 0");
            byte[] nonce = {2, 0, 0, 0, 0, 0, 0, 0, 0, 0, 0, (byte) i};
            Check.due("MAKE " + i, rig.memory(Rig.BYTES, 200), Model.chacha(KEY, nonce, new byte[200]));
        }
        Code few = new Code().sys(Code.MAKE, 0, 257);
        Code none = new Code(few.size()).sys(Code.MAKE, 256, 0).sys(Code.MAKE, 0, 32).giveOut(0, 32, 1).end();
        Rig counted = keyed(1, few, none);
        counted.tell(0, 0, 0, 5, Rig.BYTES, 32);
        Check.due("MAKE of 257", counted.invoke(0, 0), "fault 4");
        counted.open(2);
        Check.due("MAKE of none, and of 32", counted.invoke(0, 1), "ends 0");
        Check.due("the one that was not done does not count, the empty one does", counted.memory(Rig.BYTES, 32),
                Model.chacha(KEY, new byte[] {2, 0, 0, 0, 0, 0, 0, 0, 0, 0, 0, 1}, new byte[32]));
    }

    /** MAKEs are counted from each boot on. */
    private static void makeBehindBoot() {
        Code make = new Code().sys(Code.MAKE, 0, 32).giveOut(0, 32, 1).end();
        Code put = new Code(make.size()).sys(Code.PUT, 0, 0, 0, 1).op(Code.END);
        Rig rig = keyed(1, make, put);
        rig.tell(0, 0, 0, 5, Rig.BYTES, 32);
        rig.invoke(0, 0);
        byte[] first = rig.memory(Rig.BYTES, 32);
        rig.machine.power(0);
        Check.due("the power ends", rig.invoke(0, 1), "code -1");
        rig.start();
        rig.bringIn(Code.image(1, make, put));
        rig.open(2);
        rig.tell(0, 0, 0, 5, Rig.BYTES, 32);
        Check.due("MAKE", rig.invoke(0, 0), "ends 0");
        Check.due("it begins anew", rig.memory(Rig.BYTES, 32), first);
    }

    private static byte[] sealed(byte[] image, byte[] nonce, byte[] text) throws Exception {
        Cipher cipher = Cipher.getInstance("ChaCha20-Poly1305");
        cipher.init(Cipher.ENCRYPT_MODE, new SecretKeySpec(Model.mac(KEY, Model.sha(image)), "ChaCha20"),
                new IvParameterSpec(nonce));
        cipher.updateAAD(new byte[] {5});
        return cipher.doFinal(text);
    }

    private static void seal() throws Exception {
        for (int n : new int[] {0, 1, 15, 16, 17, 31, 63, 64, 65, 130, 200}) {
            Code c = new Code().takeIn(0, 240, 256).sys(Code.SEAL, 256, n, 484).giveOut(256, n + 16, 1).end();
            Rig rig = keyed(2, c);
            byte[] text = Rig.rows(240, n);
            rig.store(Rig.BYTES, text);
            rig.tell(4, Rig.BYTES, 240, 5, Rig.BYTES + 256, n + 16);
            Check.due("SEAL", rig.invoke(0, 0), "ends 0");
            Check.due("SEAL of " + n, rig.memory(Rig.BYTES + 256, n + 16),
                    sealed(Code.image(2, c), Arrays.copyOfRange(text, 228, 240), Arrays.copyOf(text, n)));
        }
        Code over = new Code().takeIn(0, 240, 256).sys(Code.SEAL, 256, 100, 360).giveOut(256, 116, 1).end();
        Rig rig = keyed(2, over);
        byte[] text = Rig.rows(240, 3);
        rig.store(Rig.BYTES, text);
        rig.tell(4, Rig.BYTES, 240, 5, Rig.BYTES + 256, 116);
        rig.invoke(0, 0);
        Check.due("SEAL with the nonce where the tag comes", rig.memory(Rig.BYTES + 256, 116),
                sealed(Code.image(2, over), Arrays.copyOfRange(text, 104, 116), Arrays.copyOf(text, 100)));
    }

    /** What a longer SEAL leaves behind is of no matter for a shorter one. */
    private static void sealOneBehindTheOther() throws Exception {
        Code c = new Code().takeIn(0, 240, 256).sys(Code.MOVE, 256, 200, 512).sys(Code.SEAL, 512, 200, 484);
        for (int n : new int[] {37, 5, 0}) {
            c.sys(Code.MOVE, 256, 200, 768).sys(Code.SEAL, 768, n, 484);
        }
        Rig rig = keyed(4, c.sys(Code.MOVE, 256, 200, 512).sys(Code.SEAL, 512, 21, 484).giveOut(512, 37, 1).end());
        byte[] text = Rig.rows(240, 77);
        rig.store(Rig.BYTES, text);
        rig.tell(4, Rig.BYTES, 240, 5, Rig.BYTES + 256, 37);
        Check.due("SEALs", rig.invoke(0, 0), "ends 0");
        byte[] image = Code.image(4, c);
        Check.due("the last one", rig.memory(Rig.BYTES + 256, 37),
                sealed(image, Arrays.copyOfRange(text, 228, 240), Arrays.copyOf(text, 21)));
    }

    private static void open() throws Exception {
        for (int n : new int[] {0, 1, 16, 64, 150}) {
            Code right = new Code().takeIn(0, 240, 256).sys(Code.SEAL, 256, n, 484).sys(Code.OPEN, 256, n, 484);
            Rig rig = keyed(2, right.giveOut(256, Math.max(n, 1), 1).end());
            byte[] text = Rig.rows(240, n);
            rig.store(Rig.BYTES, text);
            rig.tell(4, Rig.BYTES, 240, 5, Rig.BYTES + 256, Math.max(n, 1));
            Check.due("SEAL and OPEN of " + n, rig.invoke(0, 0), "ends 0");
            if (n > 0) {
                Check.due("they are as they were", rig.memory(Rig.BYTES + 256, n), Arrays.copyOf(text, n));
            }
            for (int wrong : new int[] {0, n / 2, n + 15, n, 228, 239}) {
                Code bad = new Code().takeIn(0, 240, 256).sys(Code.SEAL, 256, n, 484);
                bad.push(256 + wrong).op(Code.LOADB).push(1).op(Code.XOR).push(256 + wrong).op(Code.STOREB);
                bad.sys(Code.OPEN, 256, n, 484).giveOut(256, n + 16, 1).end();
                Rig other = keyed(2, bad);
                other.store(Rig.BYTES, text);
                other.tell(4, Rig.BYTES, 240, 5, Rig.BYTES + 256, n + 16);
                Check.due("OPEN of " + n + " with byte " + wrong + " wrong", other.invoke(0, 0), "ends 6");
                byte[] due = sealed(Code.image(2, bad), Arrays.copyOfRange(text, 228, 240), Arrays.copyOf(text, n));
                if (wrong < n + 16) {
                    due[wrong] ^= 1;
                }
                Check.due("nothing is changed", other.memory(Rig.BYTES + 256, n + 16), due);
            }
        }
    }

    private static byte[] secret() {
        return Model.mac(KEY, new byte[] {1});
    }

    /** The Java library's own look at a signature. */
    private static boolean libraryVerifies(byte[] open, byte[] text, byte[] signature) throws Exception {
        BigInteger y = PlainCurve.number(open);
        EdECPoint point = new EdECPoint(y.testBit(255), y.clearBit(255));
        Signature s = Signature.getInstance("Ed25519");
        s.initVerify(KeyFactory.getInstance("Ed25519").generatePublic(new EdECPublicKeySpec(NamedParameterSpec.ED25519, point)));
        s.update(text);
        return s.verify(signature);
    }

    private static void sign() throws Exception {
        for (int n : new int[] {0, 1, 63, 64, 79, 80, 95, 96, 111, 112, 200}) {
            Code c = new Code().takeIn(0, 240, 256).sys(Code.SIGN, 256, n, 512).giveOut(512, 64, 1).end();
            Rig rig = keyed(3, c);
            byte[] text = Rig.rows(240, 5 * n);
            rig.store(Rig.BYTES, text);
            rig.tell(4, Rig.BYTES, 240, 5, Rig.BYTES + 256, 64);
            Check.due("SIGN", rig.invoke(0, 0), "ends 0");
            byte[] signature = rig.memory(Rig.BYTES + 256, 64);
            Check.due("SIGN of " + n, signature, PlainCurve.sign(secret(), Arrays.copyOf(text, n)));
            Check.due("the library says so, too",
                    libraryVerifies(PlainCurve.publicKey(secret()), Arrays.copyOf(text, n), signature), true);
        }
        Code over = new Code().takeIn(0, 240, 256).sys(Code.SIGN, 256, 200, 270).giveOut(270, 64, 1).end();
        Rig overlaid = keyed(2, over);
        overlaid.store(Rig.BYTES, Rig.rows(240, 8));
        overlaid.tell(4, Rig.BYTES, 240, 5, Rig.BYTES + 256, 64);
        Check.due("SIGN", overlaid.invoke(0, 0), "ends 0");
        Check.due("SIGN over what is signed", overlaid.memory(Rig.BYTES + 256, 64),
                PlainCurve.sign(secret(), Arrays.copyOf(Rig.rows(240, 8), 200)));
        Code near = new Code().takeIn(0, 100, 0).sys(Code.SIGN, 0, 100, 10).giveOut(10, 64, 1).end();
        Rig low = keyed(1, near);
        low.store(Rig.BYTES, Rig.rows(100, 8));
        low.tell(4, Rig.BYTES, 100, 5, Rig.BYTES + 256, 64);
        Check.due("SIGN", low.invoke(0, 0), "ends 0");
        Check.due("SIGN to a low place", low.memory(Rig.BYTES + 256, 64), PlainCurve.sign(secret(), Rig.rows(100, 8)));
        Code c = new Code().sys(Code.PUBLIC, 0).giveOut(0, 32, 1).end();
        Rig rig = keyed(1, c);
        rig.tell(0, 0, 0, 5, Rig.BYTES, 32);
        Check.due("PUBLIC", rig.invoke(0, 0), "ends 0");
        Check.due("PUBLIC", rig.memory(Rig.BYTES, 32), PlainCurve.publicKey(secret()));
        Check.due("the test's own curve, by RFC 8032", PlainCurve.publicKey(
                hex("9d61b19deffd5a60ba844af492ec2cc44449c5697b326919703bac031cae7f60")),
                hex("d75a980182b10ab7d54bfed3c964073a0ee172f3daa62325af021a68f707511a"));
    }

    /** "its secret key the 32 bytes of the MAC with the KEY of the byte 1": of any KEY. */
    private static void signWithManyKeys() {
        byte[] image = Code.image(1, new Code().sys(Code.SIGN, 0, 40, 100).giveOut(100, 64, 1).end());
        for (int i = 0; i < 16; i++) {
            byte[] key = i == 0 ? hex("ff".repeat(32)) : Rig.rows(32, 13 * i);
            Rig rig = new Rig();
            rig.setKey(key);
            rig.burn(image, 4);
            rig.start();
            rig.bringIn(image);
            rig.open(0);
            rig.tell(0, 0, 0, 5, Rig.BYTES, 64);
            byte[] secret = Model.mac(key, new byte[] {1});
            Check.due("SIGN", rig.invoke(0, 0), "ends 0");
            Check.due("SIGN with KEY " + i, rig.memory(Rig.BYTES, 64), PlainCurve.sign(secret, new byte[40]));
            Check.due("PUBLIC", rig.machine.call(15, 100, 0, 0), 0);
            Check.due("PUBLIC with KEY " + i, rig.memory(100, 32), PlainCurve.publicKey(secret));
        }
    }

    private static String verified(byte[] text, byte[] open, byte[] signature) {
        byte[] all = new byte[96 + text.length];
        System.arraycopy(open, 0, all, 0, 32);
        System.arraycopy(signature, 0, all, 32, 64);
        System.arraycopy(text, 0, all, 96, text.length);
        Code c = new Code().takeIn(0, all.length, 0).sys(Code.VERIFY, 96, text.length, 0, 32).op(Code.END);
        Rig rig = Rig.withRights(0, 1, c);
        rig.store(Rig.BYTES, all);
        rig.tell(4, Rig.BYTES, all.length);
        return rig.invoke(0, 0);
    }

    private static void verify() {
        // the first three of RFC 8032, 7.1
        String[][] rfc = {
            {"", "d75a980182b10ab7d54bfed3c964073a0ee172f3daa62325af021a68f707511a",
                "e5564300c360ac729086e2cc806e828a84877f1eb8e5d974d873e065224901555fb8821590a33bacc61e39701cf9b46b"
                + "d25bf5f0595bbe24655141438e7a100b"},
            {"72", "3d4017c3e843895a92b70aa74d1b7ebc9c982ccf2ec4968cc0cd55f12af4660c",
                "92a009a9f0d4cab8720e820b5f642540a2b27b5416503f8fb3762223ebdb69da085ac1e43e15996e458f3613d0f11d8c"
                + "387b2eaeb4302aeeb00d291612bb0c00"},
            {"af82", "fc51cd8e6218a1a38da47ed00230f0580816ed13ba3303ac5deb911548908025",
                "6291d657deec24024827e69c3abe01a30ce548a284743a445e3680d7db5ac3ac18ff9b538d16f290ae67f760984dc659"
                + "4a7c15e9716ed28dc027beceea1ec40a"}
        };
        for (String[] r : rfc) {
            byte[] text = hex(r[0]);
            byte[] open = hex(r[1]);
            byte[] signature = hex(r[2]);
            Check.due("VERIFY of the RFC's", verified(text, open, signature), "ends 1");
            for (int i : new int[] {0, 31, 32, 62, 63}) {
                byte[] bad = signature.clone();
                bad[i] ^= 4;
                Check.due("VERIFY with byte " + i + " of the signature wrong", verified(text, open, bad), "ends 0");
            }
            byte[] other = open.clone();
            other[31] ^= (byte) 128;
            Check.due("VERIFY with the other x", verified(text, other, signature), "ends 0");
            Check.due("VERIFY of another text", verified(Arrays.copyOf(text, text.length + 1), open, signature), "ends 0");
            byte[] high = signature.clone();
            byte[] s = PlainCurve.lowestFirst(PlainCurve.number(Arrays.copyOfRange(signature, 32, 64)).add(PlainCurve.L));
            System.arraycopy(s, 0, high, 32, 32);
            Check.due("VERIFY with S and the order", verified(text, open, high), "ends 0");
        }
    }

    /** Keys whose x is odd and even, whichever root is found first. */
    private static void verifyManyKeys() {
        for (int i = 0; i < 24; i++) {
            byte[] secret = Rig.rows(32, 3 * i);
            byte[] text = Rig.rows(i, 1);
            byte[] signature = PlainCurve.sign(secret, text);
            Check.due("VERIFY by key " + i, verified(text, PlainCurve.publicKey(secret), signature), "ends 1");
            signature[31] ^= (byte) 128;
            Check.due("VERIFY of the other point", verified(text, PlainCurve.publicKey(secret), signature), "ends 0");
        }
    }

    /** Points of low order, encodings that are none, and S at the group's order. */
    private static void verifyOddPoints() {
        byte[] one = PlainCurve.lowestFirst(BigInteger.ONE);
        byte[] zero = new byte[32];
        byte[] minusOne = PlainCurve.lowestFirst(PlainCurve.P.subtract(BigInteger.ONE));
        byte[] oneWithBit = one.clone();
        oneWithBit[31] |= (byte) 128;
        byte[] minusOneWithBit = minusOne.clone();
        minusOneWithBit[31] |= (byte) 128;
        byte[] p = PlainCurve.lowestFirst(PlainCurve.P);
        byte[] oneAndP = PlainCurve.lowestFirst(PlainCurve.P.add(BigInteger.ONE));
        byte[] two = PlainCurve.lowestFirst(BigInteger.TWO);
        byte[][] points = {one, zero, minusOne, oneWithBit, minusOneWithBit, p, oneAndP, two};
        for (int a = 0; a < points.length; a++) {
            for (int r = 0; r < points.length; r++) {
                for (byte[] s : new byte[][] {zero, PlainCurve.lowestFirst(PlainCurve.L), one}) {
                    byte[] signature = Arrays.copyOf(points[r], 64);
                    System.arraycopy(s, 0, signature, 32, 32);
                    boolean want = PlainCurve.verifies(points[a], new byte[] {7}, signature);
                    Check.due("VERIFY of points " + a + " " + r + " and S " + s[0],
                            verified(new byte[] {7}, points[a], signature), want ? "ends 1" : "ends 0");
                }
            }
        }
        byte[] identity = Arrays.copyOf(one, 64);
        Check.due("the neutral point for all, S 0", verified(new byte[] {7}, one, identity), "ends 1");
        byte[] atOrder = identity.clone();
        System.arraycopy(PlainCurve.lowestFirst(PlainCurve.L), 0, atOrder, 32, 32);
        Check.due("S at the order", verified(new byte[] {7}, one, atOrder), "ends 0");
        BigInteger most = PlainCurve.L.subtract(BigInteger.ONE);
        byte[] below = Arrays.copyOf(PlainCurve.encode(PlainCurve.times(most, PlainCurve.BASE)), 64);
        System.arraycopy(PlainCurve.lowestFirst(most), 0, below, 32, 32);
        Check.due("S just below the order", verified(new byte[] {7}, one, below), "ends 1");
        Check.due("x 0 with its bit", verified(new byte[] {7}, oneWithBit, identity), "ends 0");
        Check.due("y not below the prime", verified(new byte[] {7}, oneAndP, identity), "ends 0");
    }

    private static byte[] agreed(byte[] k, byte[] u) {
        byte[] both = Arrays.copyOf(k, 64);
        System.arraycopy(u, 0, both, 32, 32);
        Code c = new Code().takeIn(0, 64, 0).sys(Code.AGREE, 0, 32, 16).giveOut(16, 32, 1).end();
        Rig rig = Rig.with(1, c);
        rig.store(Rig.BYTES, both);
        rig.tell(4, Rig.BYTES, 64, 5, Rig.BYTES + 256, 32);
        Check.due("AGREE", rig.invoke(0, 0), "ends 0");
        return rig.memory(Rig.BYTES + 256, 32);
    }

    private static void agree() {
        Check.due("X25519 by RFC 7748", agreed(hex("a546e36bf0527c9d3b16154b82465edd62144c0ac1fc5a18506a2244ba449ac4"),
                hex("e6db6867583030db3594c1a424b15f7c726624ec26b3353b10a903a6d0ab1c4c")),
                hex("c3da55379de9c6908e94ea4df28d084f32eccf03491c71f754b4075577a28552"));
        Check.due("the second one, with bit 255", agreed(hex("4b66e9d4d1b4673c5ad22691957d6af5c11b6421e0ea01d42ca4169e7918ba0d"),
                hex("e5210f12786811d3f4b7959d0538ae2c31dbe7106fc03c3efc4cd549c715a493")),
                hex("95cbde9476e8907d7aade45cb4b873f88b595a68799fa152e6f8f7647aac7957"));
        byte[] nine = PlainCurve.lowestFirst(BigInteger.valueOf(9));
        Check.due("once from 9", agreed(nine, nine), hex("422c8e7a6227d7bca1350b3e2bb7279f7897b87bb6854b783c60e80311ae3079"));
        byte[][] odd = {
            new byte[32], PlainCurve.lowestFirst(BigInteger.ONE), PlainCurve.lowestFirst(PlainCurve.P),
            PlainCurve.lowestFirst(PlainCurve.P.subtract(BigInteger.ONE)), PlainCurve.lowestFirst(PlainCurve.P.add(BigInteger.TEN)),
            hex("ff".repeat(32)), Rig.rows(32, 9)
        };
        for (byte[] point : odd) {
            Check.due("X25519 of an odd u", agreed(Rig.rows(32, 99), point), PlainCurve.agree(Rig.rows(32, 99), point));
        }
        Check.due("a number of all bits", agreed(hex("ff".repeat(32)), nine), PlainCurve.agree(hex("ff".repeat(32)), nine));
        Check.due("a number of none", agreed(new byte[32], nine), PlainCurve.agree(new byte[32], nine));
    }

    /** What one call leaves behind is of no matter for the next one. */
    private static void oneBehindTheOther() {
        Code in = new Code().takeIn(0, 160, 0).end();
        Code agree = new Code(in.size()).sys(Code.AGREE, 0, 32, 300).giveOut(300, 32, 1).end();
        Code sign = new Code(in.size() + agree.size()).sys(Code.SIGN, 0, 50, 300).giveOut(300, 64, 1).end();
        Code verify = new Code(in.size() + agree.size() + sign.size()).sys(Code.VERIFY, 96, 60, 0, 32).op(Code.END);
        Rig rig = keyed(2, in, agree, sign, verify);
        for (int i = 0; i < 4; i++) {
            byte[] text = Rig.rows(160, 11 * i + 1);
            byte[] by = Rig.rows(32, i);
            System.arraycopy(PlainCurve.publicKey(by), 0, text, 0, 32);
            System.arraycopy(PlainCurve.sign(by, Arrays.copyOfRange(text, 96, 156)), 0, text, 32, 64);
            text[40] += (byte) (i % 2);
            rig.store(Rig.BYTES, text);
            rig.tell(4, Rig.BYTES, 160, 5, Rig.BYTES + 256, 64);
            Check.due("bytes come in", rig.invoke(0, 0), "ends 0");
            Check.due("AGREE", rig.invoke(0, 1), "ends 0");
            Check.due("AGREE " + i, rig.memory(Rig.BYTES + 256, 32),
                    PlainCurve.agree(Arrays.copyOf(text, 32), Arrays.copyOfRange(text, 32, 64)));
            Check.due("VERIFY " + i, rig.invoke(0, 3), i % 2 == 0 ? "ends 1" : "ends 0");
            Check.due("SIGN", rig.invoke(0, 2), "ends 0");
            Check.due("SIGN " + i, rig.memory(Rig.BYTES + 256, 64), PlainCurve.sign(secret(), Arrays.copyOf(text, 50)));
        }
    }

    private static void ranges() {
        int[][] rows = {
            {Code.MAKE, 0, 256, 0}, {Code.MAKE, 1, 256, 4}, {Code.MAKE, 0, -1, 4}, {Code.MAKE, -1, 0, 4}, {Code.MAKE, 256, 0, 0},
            {Code.SEAL, 0, 240, 244, 0}, {Code.SEAL, 1, 240, 0, 4}, {Code.SEAL, 0, 0, 245, 4}, {Code.SEAL, 0, 513, 0, 4},
            {Code.SEAL, 0, -16, 0, 4}, {Code.SEAL, 0, -1, 0, 4}, {Code.SEAL, 240, 0, 0, 0}, {Code.SEAL, 241, 0, 0, 4},
            {Code.OPEN, 0, 240, 244, 0}, {Code.OPEN, 1, 240, 0, 4}, {Code.OPEN, 0, Integer.MAX_VALUE, 0, 4},
            {Code.SIGN, 0, 256, 192, 0}, {Code.SIGN, 0, 257, 0, 4}, {Code.SIGN, 0, 0, 193, 4}, {Code.SIGN, 256, 0, 0, 0},
            {Code.SIGN, 0, -1, 0, 4}, {Code.PUBLIC, 224, 0}, {Code.PUBLIC, 225, 4}, {Code.PUBLIC, -1, 4},
            {Code.AGREE, 224, 224, 224, 0}, {Code.AGREE, 225, 0, 0, 4}, {Code.AGREE, 0, 225, 0, 4}, {Code.AGREE, 0, 0, 225, 4},
            {Code.VERIFY, 0, 256, 224, 192, 0}, {Code.VERIFY, 0, 257, 0, 0, 4}, {Code.VERIFY, 0, 0, 225, 0, 4},
            {Code.VERIFY, 0, 0, 0, 193, 4}, {Code.VERIFY, 257, 0, 0, 0, 4}
        };
        for (int[] r : rows) {
            Code c = new Code().push(Arrays.copyOfRange(r, 1, r.length - 1)).sys(r[0]).end(1);
            Check.due("SYS " + Arrays.toString(r), Rig.outcome(c), r[r.length - 1] == 0 ? "ends 1" : "fault 4");
        }
        Code[] wide = {
            new Code().sys(Code.SIGN, 0, 513, 600), new Code().sys(Code.SEAL, 0, 513, 900), new Code().sys(Code.OPEN, 0, 513, 900),
            new Code().sys(Code.VERIFY, 0, 513, 600, 700), new Code().sys(Code.MAKE, 0, 257)
        };
        for (Code c : wide) {
            Check.due("a size above all", Rig.with(4, c.end(1)).invoke(0, 0), "fault 4");
        }
        Code most = new Code().sys(Code.PUBLIC, 700).sys(Code.SIGN, 0, 512, 600).sys(Code.VERIFY, 0, 512, 700, 600)
                .sys(Code.SEAL, 0, 512, 900).sys(Code.OPEN, 0, 512, 900).op(Code.ADD, Code.END);
        Check.due("512 bytes", Rig.with(4, most).invoke(0, 0), "ends 1");
    }
}
