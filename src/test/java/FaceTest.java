import java.lang.reflect.Constructor;
import java.lang.reflect.Field;
import java.lang.reflect.Method;
import java.lang.reflect.Modifier;
import java.util.Arrays;
import java.util.NoSuchElementException;
import java.util.Set;
import java.util.TreeSet;

/** The face itself, and the promises 1, 2, 3, 7, 8, 9, 11, 12, 13, 17 and 18. */
public final class FaceTest {
    private FaceTest() {
    }

    public static void main(String[] args) {
        face();
        newObject();
        feedAndEnd();
        boot();
        power();
        result();
        loadAndStore();
        disk();
        replay();
        Check.finish();
    }

    /** The public members are those of the document, and no private method has a public one's name. */
    private static void face() {
        Set<String> open = new TreeSet<>();
        Set<String> hidden = new TreeSet<>();
        for (Method m : TrustedMachine.class.getDeclaredMethods()) {
            (Modifier.isPublic(m.getModifiers()) ? open : hidden).add(m.getName());
            Check.due(m.getName() + " is public or private",
                    (m.getModifiers() & (Modifier.PUBLIC | Modifier.PRIVATE)) != 0, true);
        }
        Check.due("the methods", open.toString(), "[boot, burn, call, disk, end, feed, go, isDown, key, load, power, "
                + "product, register, replay, result, store, walk]");
        hidden.retainAll(open);
        Check.due("private names that are public ones", hidden.toString(), "[]");
        for (Field f : TrustedMachine.class.getDeclaredFields()) {
            Check.due(f.getName() + " is private", Modifier.isPrivate(f.getModifiers()), !f.getName().equals("NONE"));
        }
        Constructor<?>[] constructors = TrustedMachine.class.getDeclaredConstructors();
        Check.due("constructors", constructors.length, 1);
        Check.due("the class is final", Modifier.isFinal(TrustedMachine.class.getModifiers()), true);
        Check.due("NONE", TrustedMachine.NONE, -1);
    }

    /** Promise 1. */
    private static void newObject() {
        TrustedMachine m = new TrustedMachine();
        Check.due("a new object is down", m.isDown(), true);
        Check.due("its tape is empty", m.end(1), false);
        Check.due("its tape is empty", m.end(0), true);
        for (int i = 0; i < 18; i++) {
            Check.due("register " + i + " of a new object", m.register(i), 0);
        }
        for (int i = 0; i < 4; i++) {
            Check.due("result " + i + " of a new object", m.result(i), 0);
        }
        Check.due("call on a new object", m.call(0, 0, 0, 0), -1);
        Check.due("load on a new object", m.load(0), -1);
        Check.due("store on a new object", m.store(0), false);
        Check.due("go on a new object", m.go(0), false);
        Check.due("walk on a new object", m.walk(1), 0);
        Check.due("the first block", m.disk(0, 0, 0), 0);
        Check.due("the last block", m.disk(63, 255, 0), 0);
        Check.due("the state after a call that was down", m.register(17), 0);
    }

    /** Promises 2 and 3. */
    private static void feedAndEnd() {
        TrustedMachine m = new TrustedMachine();
        Check.due("feed", m.feed(0x01020304, 0x05060708, 0x090a0b0c, 0x0d0e0f10, 0xf1f2f3f4), true);
        Check.due("end beyond the tape", m.end(21), false);
        Check.due("end below 0", m.end(-1), false);
        Check.due("end at the tape's end", m.end(20), true);
        m.boot();
        m.store(0);
        int[] due = {1, 2, 3, 4, 5, 6, 7, 8, 9, 10, 11, 12, 13, 14, 15, 16, 0xf1, 0xf2, 0xf3, 0xf4, 0};
        for (int i = 0; i < due.length; i++) {
            Check.due("byte " + i + " of the tape", m.load(i), due[i]);
        }
        Check.due("the tape is empty behind a store", m.end(1), false);
        m.feed(0x11111111, 0, 0, 0, 0);
        Check.due("end(2)", m.end(2), true);
        m.feed(0x22222222, 0, 0, 0, 0);
        Check.due("end(23)", m.end(23), false);
        Check.due("end(22)", m.end(22), true);
        m.store(100);
        Check.due("what is fed comes behind the end", m.load(102), 0x22);
        Check.due("the byte ahead of it", m.load(101), 0x11);

        TrustedMachine full = new TrustedMachine();
        for (int i = 0; i < 55; i++) {
            Check.due("feed " + i, full.feed(i, i, i, i, i), true);
        }
        Check.due("feed beyond 1100", full.feed(1, 1, 1, 1, 1), false);
        Check.due("it changes nothing", full.end(1101), false);
        Check.due("1100 are there", full.end(1100), true);
        full.end(1081);
        Check.due("feed to 1101", full.feed(0, 0, 0, 0, 0), false);
        Check.due("end(1080)", full.end(1080), true);
        Check.due("feed to 1100", full.feed(0, 0, 0, 0, 0), true);
        Check.due("end of the greatest int", full.end(Integer.MAX_VALUE), false);
        Check.due("end of the least int", full.end(Integer.MIN_VALUE), false);
    }

    /** Promises 7 and 9. */
    private static void boot() {
        Rig rig = new Rig();
        TrustedMachine m = rig.machine;
        Check.due("the first boot", m.boot(), true);
        Check.due("not down", m.isDown(), false);
        Check.due("boot when not down", m.boot(), false);
        rig.store(10, new byte[] {5});
        m.call(12, 7, 0, 0);
        Check.due("a boot that is none changes nothing", m.boot(), false);
        Check.due("memory stays", m.load(10), 5);

        Rig raised = raising();
        raised.store(10, new byte[] {5});
        raised.machine.power(0);
        Check.due("a call by which it goes down", raised.machine.call(14, 0, 0, 0), -1);
        Check.due("down", raised.machine.isDown(), true);
        Check.due("load when down", raised.machine.load(10), -1);
        Check.due("store when down", raised.machine.store(0), false);
        Check.due("boot again", raised.machine.boot(), true);
        Check.due("memory is gone", raised.machine.load(10), 0);
        Check.due("pages are normal", raised.machine.load(16 * 256), 0);
        Check.due("the last pages are secure", raised.machine.load(24 * 256), -1);
        Check.due("the applet is gone", raised.machine.call(5, 0, 0, 0), 3);
        Check.due("the session is gone", raised.machine.call(6, 0, 0, 0), 3);
        Check.due("the count stays", raised.count(), 0);
        Check.due("the power is back for good", reRaise(raised), 0);
    }

    private static Rig raising() {
        Rig rig = new Rig();
        byte[] image = Code.image(1, new Code().end());
        rig.burn(image, 7);
        rig.machine.product(0, 3, 5);
        rig.start();
        rig.bringIn(image);
        rig.open(0);
        return rig;
    }

    private static int reRaise(Rig rig) {
        rig.machine.call(1, 16, 0, 0);
        rig.bringIn(Code.image(1, new Code().end()));
        return rig.machine.call(14, 0, 0, 0);
    }

    /** Promise 8: each number of writes is enough for so many and no more. */
    private static void power() {
        for (int k = -2; k < 6; k++) {
            Code put = new Code().text(0, "n").sys(Code.PUT, 0, 1, 0, 1).op(Code.END);
            Rig rig = Rig.with(1, put);
            rig.machine.power(k);
            boolean enough = k < 0 || k >= 5;
            Check.due("PUT with power for " + k, rig.invoke(0, 0), enough ? "ends 0" : "code -1");
            Check.due("down with power for " + k, rig.machine.isDown(), !enough);
            for (int i = 0; i < 4; i++) {
                Check.due("block " + i + " with power for " + k, Arrays.equals(rig.block(i), new byte[256]), k >= 0 && k <= i);
            }
        }
        Rig rig = Rig.with(1, new Code().end(1));
        rig.machine.power(0);
        Check.due("calls that do not write go on without power", rig.invoke(0, 0), "ends 1");
        Check.due("it is not down", rig.machine.isDown(), false);
        rig.machine.power(Integer.MIN_VALUE);
        rig.machine.power(Integer.MAX_VALUE);
        Check.due("it is not down", rig.machine.isDown(), false);

        Rig told = raising();
        told.machine.power(0);
        told.machine.power(-1);
        Check.due("power for good again", told.machine.call(14, 0, 0, 0), 0);
        Rig one = raising();
        one.machine.power(1);
        Check.due("power for the CELL", one.machine.call(14, 0, 0, 0), 0);
        Check.due("COUNT", one.count(), 1);
    }

    /** Promise 11. */
    private static void result() {
        TrustedMachine m = new TrustedMachine();
        m.boot();
        m.call(0, 0, 0, 0);
        Check.due("result(0)", m.result(0), 1);
        Check.due("result(1)", m.result(1), 0);
        m.call(99, 0, 0, 0);
        Check.due("results of a call that is BAD", m.result(0), 0);
        for (int i : new int[] {-1, 4, Integer.MIN_VALUE, Integer.MAX_VALUE}) {
            boolean thrown = false;
            try {
                m.result(i);
            } catch (IndexOutOfBoundsException e) {
                // a class below it would be the Java machine's own
                thrown = e.getClass() == IndexOutOfBoundsException.class;
            }
            Check.due("result(" + i + ") throws", thrown, true);
        }
    }

    /** Promises 12 and 13. */
    private static void loadAndStore() {
        Rig rig = new Rig();
        TrustedMachine m = rig.machine;
        m.boot();
        Check.due("load at the normal pages' end", m.load(24 * 256 - 1), 0);
        for (int at : new int[] {24 * 256, 8191, 8192, -1, Integer.MIN_VALUE, Integer.MAX_VALUE}) {
            Check.due("load(" + at + ")", m.load(at), -1);
        }
        Check.due("store to the end", rig.store(24 * 256 - 2, new byte[] {1, (byte) 200}), true);
        Check.due("a byte above 127", m.load(24 * 256 - 1), 200);
        Check.due("store beyond the end", rig.store(24 * 256 - 1, new byte[] {7, 8}), false);
        Check.due("it changes nothing", m.load(24 * 256 - 1), 200);
        Check.due("the tape stays", m.end(2), true);
        Check.due("and can be stored", m.store(0), true);
        Check.due("so it was", m.load(1), 8);
        Check.due("an empty tape", m.store(5), true);
        Check.due("an empty tape at 0", m.store(0), true);
        Check.due("an empty tape below 0", m.store(-1), false);
        Check.due("an empty tape in a secure page", m.store(24 * 256), true);
        Check.due("an empty tape beyond all", m.store(Integer.MAX_VALUE), true);
        m.call(1, 9, 0, 0);
        Check.due("over a secure page", rig.store(9 * 256 - 1, new byte[] {1, 1}), false);
        Check.due("up to it", rig.store(9 * 256 - 2, new byte[] {1, 1}), true);
        Check.due("from behind it", rig.store(10 * 256, new byte[] {1}), true);
        byte[] wide = new byte[600];
        Check.due("a page in the midst", rig.store(9 * 256 - 100, wide), false);
        m.feed(0, 0, 0, 0, 0);
        Check.due("far below 0", m.store(Integer.MIN_VALUE), false);
        Check.due("far above", m.store(Integer.MAX_VALUE), false);
    }

    /** Promise 17. */
    private static void disk() {
        TrustedMachine m = new TrustedMachine();
        Check.due("disk", m.disk(3, 4, 0x1ff), 255);
        Check.due("disk again", m.disk(3, 4, 0x0f), 240);
        Check.due("no change", m.disk(3, 4, 256), 240);
        Check.due("the byte behind it", m.disk(3, 5, 0), 0);
        m.boot();
        Check.due("a boot leaves it", m.disk(3, 4, 0), 240);
        int[][] none = {{-1, 0}, {64, 0}, {0, -1}, {0, 256}, {Integer.MAX_VALUE, 0}, {0, Integer.MIN_VALUE}};
        for (int[] at : none) {
            boolean thrown = false;
            try {
                m.disk(at[0], at[1], 1);
            } catch (NoSuchElementException e) {
                thrown = e.getClass() == NoSuchElementException.class;
            }
            Check.due("disk(" + at[0] + ", " + at[1] + ", 1) throws", thrown, true);
        }
    }

    /** Promise 18. */
    private static void replay() {
        Code put = new Code().text(0, "n").sys(Code.PUT, 0, 1, 0, 1).op(Code.END);
        Rig rig = Rig.with(1, put);
        TrustedMachine m = rig.machine;
        Check.due("replay of no block", m.replay(-1), false);
        Check.due("replay of no block", m.replay(64), false);
        m.disk(0, 9, 77);
        rig.invoke(0, 0);
        byte[] written = rig.block(0);
        m.disk(0, 100, 1);
        Check.due("replay", m.replay(0), true);
        byte[] before = new byte[256];
        before[9] = 77;
        Check.due("what was there before, with its edit and without the later one", rig.block(0), before);
        m.replay(0);
        Check.due("a replay is no writing", rig.block(0), before);
        Check.due("the tree is not whole then", rig.kept(0), "code 6");
        for (int k = 0; k < 256; k++) {
            m.disk(0, k, before[k] ^ written[k]);
        }
        Check.due("and is again", rig.kept(0), "1 1 4");
        m.disk(63, 1, 5);
        Check.due("replay of a block that was never written", m.replay(63), true);
        Check.due("it is 0s", rig.block(63), new byte[256]);
        rig.invoke(0, 0);
        rig.invoke(0, 0);
        Check.due("replay behind a second writing", m.replay(0), true);
        Check.due("it is the first one", rig.block(0), written);
    }
}
