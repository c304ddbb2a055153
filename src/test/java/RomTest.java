/** The promises 4, 5 and 6: what comes into ROM, and that it can be written until the first boot. */
public final class RomTest {
    private RomTest() {
    }

    public static void main(String[] args) {
        burn();
        key();
        product();
        Check.finish();
    }

    private static byte[] ending(int with) {
        return Code.image(1, new Code().end(with));
    }

    private static void burn() {
        Rig rig = new Rig();
        rig.feed(ending(0));
        Check.due("burn(-1)", rig.machine.burn(-1), -1);
        Check.due("burn(8)", rig.machine.burn(8), -1);
        Check.due("burn(7)", rig.machine.burn(7), 0);
        Check.due("the tape stays", rig.machine.end(ending(0).length), true);
        Check.due("burn(0) of the same", rig.machine.burn(0), 1);
        for (int i = 2; i < 8; i++) {
            Check.due("burn " + i, rig.burn(ending(i), i), i);
        }
        Check.due("a ninth", rig.burn(ending(9), 7), -1);
        rig.start();
        Check.due("behind the boot", rig.burn(ending(9), 7), -1);
        Check.due("the first entry with the digest", rig.bringIn(ending(0)), 0);
        Check.due("its number", rig.machine.result(0), 0);
        Check.due("entry 5", rig.bringIn(ending(5)), 0);
        Check.due("its number", rig.machine.result(0), 5);
        Check.due("one that is none", rig.bringIn(ending(9)), 2);

        Rig empty = new Rig();
        Check.due("burn of an empty tape", empty.machine.burn(3), 0);
        Rig booted = new Rig();
        booted.machine.boot();
        booted.feed(ending(0));
        Check.due("burn behind the boot", booted.machine.burn(7), -1);
    }

    private static void key() {
        Rig rig = new Rig();
        rig.feed(Rig.rows(31, 1));
        Check.due("key of 31 bytes", rig.machine.key(), false);
        Check.due("the tape stays", rig.machine.end(31), true);
        rig.feed(Rig.rows(40, 9));
        Check.due("key of 40 bytes", rig.machine.key(), true);
        Check.due("the tape is empty", rig.machine.end(1), false);
        rig.start();
        rig.feed(Rig.rows(32, 1));
        Check.due("key behind the boot", rig.machine.key(), false);
        Check.due("the tape stays", rig.machine.end(32), true);
        rig.machine.call(15, 100, 0, 0);
        byte[] secret = Model.mac(Rig.rows(32, 9), new byte[] {1});
        Check.due("the key's first 32 bytes are used", rig.memory(100, 32), PlainCurve.publicKey(secret));

        Rig plain = new Rig();
        plain.start();
        plain.machine.call(15, 100, 0, 0);
        Check.due("the key is 0 at first", plain.memory(100, 32),
                PlainCurve.publicKey(Model.mac(new byte[32], new byte[] {1})));

        Rig twice = new Rig();
        twice.setKey(Rig.rows(32, 50));
        twice.setKey(Rig.rows(32, 9));
        twice.start();
        twice.machine.call(15, 100, 0, 0);
        Check.due("the latest key counts", twice.memory(100, 32), PlainCurve.publicKey(secret));
    }

    private static void product() {
        Rig rig = new Rig();
        byte[] one = ending(1);
        byte[] two = ending(2);
        Check.due("no such entry yet", rig.machine.product(0, 0, 0), false);
        rig.burn(one, 7);
        rig.burn(two, 7);
        int[][] bad = {{-1, 0, 0}, {2, 0, 0}, {8, 0, 0}, {0, -1, 0}, {0, 8, 0}, {0, 0, -1}, {0, 0, 10000},
            {Integer.MIN_VALUE, 0, 0}, {Integer.MAX_VALUE, 0, 0}};
        for (int[] b : bad) {
            Check.due("product(" + b[0] + ", " + b[1] + ", " + b[2] + ")", rig.machine.product(b[0], b[1], b[2]), false);
        }
        Check.due("product(0, 7, 9999)", rig.machine.product(0, 7, 9999), true);
        Check.due("product(1, 7, 9998)", rig.machine.product(1, 7, 9998), true);
        rig.start();
        Check.due("product behind the boot", rig.machine.product(0, 0, 0), false);
        Check.due("the older one comes in", rig.bringIn(two), 0);
        Check.due("another one of its product does not", rig.bringIn(one), 8);
        rig.machine.call(4, 1, 0, 0);
        Check.due("it does when that is out", rig.bringIn(one), 0);
        Check.due("RAISE", rig.machine.call(14, 0, 0, 0), 0);
        rig.machine.call(4, 0, 0, 0);
        Check.due("the older one is denied then", rig.bringIn(two), 2);
        Check.due("the newer one is not", rig.bringIn(one), 0);
    }
}
