import java.util.ArrayList;
import java.util.Arrays;
import java.util.List;

/** Promise 10, Part IV: objects on the disk, one at a time. */
public final class ObjectsTest {
    /** Where the applet of keeper() has the name, and the bytes that are put and got. */
    private static final int NAME = 0;
    private static final int BYTES = 256;

    private ObjectsTest() {
    }

    public static void main(String[] args) {
        putAndGet();
        layout();
        padding();
        names();
        deleting();
        fullNode();
        fullDisk();
        list();
        products();
        corruption();
        whatIsReadOnTheWay();
        Check.finish();
    }

    /**
     * An applet with all four: PARAMETER 0 is the name, 1 the size and how many are wanted, 2 and 3 the bytes
     * that come in or go out. Commands: PUT, GET, DELETE, HAS, LIST, and one that takes bytes in.
     */
    static Code[] commands() {
        List<Code> all = new ArrayList<>();
        int at = 0;
        for (int n : new int[] {Code.PUT, Code.GET, Code.DELETE, Code.HAS, Code.LIST}) {
            Code c = new Code(at);
            if (n == Code.LIST) {
                c.sys(Code.FIRST, 1).push(NAME).sys(n);
            } else {
                takeName(c);
                if (n == Code.PUT || n == Code.GET) {
                    c.push(BYTES).sys(Code.FIRST, 1);
                }
                c.push(NAME).sys(Code.SIZE, 0).sys(n);
            }
            if (n == Code.GET || n == Code.HAS || n == Code.LIST) {
                c.push(1).sys(Code.SETSECOND);
            }
            all.add(c.end());
            at += c.size();
        }
        Code in = new Code(at).takeIn(2, 256, BYTES).takeIn(3, 256, BYTES + 256).end();
        all.add(in);
        Code out = new Code(at + in.size()).giveOut(BYTES, 256, 2).giveOut(BYTES + 256, 256, 3).end();
        all.add(out);
        Code name = new Code(at + in.size() + out.size()).giveOut(NAME, 16, 0).end();
        all.add(name);
        return all.toArray(new Code[0]);
    }

    /** The name of PARAMETER 0, whatever its length, comes to NAME. */
    private static void takeName(Code c) {
        c.sys(Code.SIZE, 0).push(248).op(Code.STOREW);
        int loop = c.place();
        c.push(248).op(Code.LOADW).push(1).op(Code.SUB, Code.DUP).push(248).op(Code.STOREW);
        c.op(Code.DUP).push(0).sys(Code.GETBYTE).op(Code.SWAP).push(NAME).op(Code.ADD, Code.STOREB);
        c.push(248).op(Code.LOADW);
        c.jump(Code.JZERO, c.place() + 6).jump(Code.JUMP, loop);
    }

    /** A machine whose applets 0 .. n - 1 all have those commands. */
    static final class Keeper {
        final Rig rig = new Rig();
        private final byte[][] images;

        Keeper(int applets) {
            images = new byte[applets][];
            rig.setKey(Rig.rows(32, 66));
            for (int i = 0; i < applets; i++) {
                byte[] image = Code.image(3, commands());
                // a code more that is never come to makes another digest
                images[i] = Arrays.copyOf(image, image.length + 1 + i);
                rig.burn(images[i], 7);
            }
        }

        Keeper start() {
            rig.start();
            for (int i = 0; i < images.length; i++) {
                Check.due("LOAD " + i, rig.bringIn(images[i]), 0);
                Check.due("OPEN " + i, rig.open(i), i);
            }
            return this;
        }

        private static byte[] raw(String text) {
            return text.getBytes(java.nio.charset.StandardCharsets.ISO_8859_1);
        }

        private String run(int applet, int command, String name, int first) {
            int sort = command == 7 ? 5 : 4;
            rig.store(Rig.BYTES, raw(name));
            rig.tell(sort, Rig.BYTES, name.length(), 3, first, 0, command == 6 ? 5 : 4, Rig.BYTES + 256, 256,
                    command == 6 ? 5 : 4, Rig.BYTES + 512, 256);
            return rig.invoke(applet, command);
        }

        String put(int applet, String name, byte[] bytes) {
            rig.store(Rig.BYTES + 256, Arrays.copyOf(bytes, 512));
            Check.due("bytes come in", run(applet, 5, "n", 0), "ends 0");
            return run(applet, 0, name, bytes.length);
        }

        private String told(String answer) {
            return answer + " told " + rig.word(Rig.TOLD + 20);
        }

        String get(int applet, String name, int most) {
            return told(run(applet, 1, name, most));
        }

        byte[] got(int applet, int n) {
            Check.due("bytes go out", run(applet, 6, "n", 0), "ends 0");
            return rig.memory(Rig.BYTES + 256, n);
        }

        String delete(int applet, String name) {
            return run(applet, 2, name, 0);
        }

        String has(int applet, String name) {
            return told(run(applet, 3, name, 0));
        }

        String list(int applet, int i) {
            return told(run(applet, 4, "n", i));
        }

        String listed(int applet) {
            run(applet, 7, "0123456789abcdef", 0);
            return new String(rig.memory(Rig.BYTES, 16), java.nio.charset.StandardCharsets.ISO_8859_1);
        }
    }

    private static void putAndGet() {
        for (int n : new int[] {0, 1, 255, 256, 257, 511, 512}) {
            Keeper k = new Keeper(1).start();
            byte[] bytes = Rig.rows(n, n + 1);
            Check.due("HAS of none", k.has(0, "x"), "ends 7 told 0");
            Check.due("GET of none", k.get(0, "x", 512), "ends 7 told 0");
            Check.due("PUT of " + n, k.put(0, "x", bytes), "ends 0");
            Check.due("KEPT", k.rig.kept(0), "1 1 " + (3 + (n + 255) / 256));
            Check.due("COUNT", k.rig.count(), 1);
            Check.due("HAS", k.has(0, "x"), "ends 0 told " + n);
            k.put(0, "other", Rig.rows(512, 100));
            Check.due("GET", k.get(0, "x", 512), "ends 0 told " + n);
            Check.due("its bytes", k.got(0, n), bytes);
            Check.due("GET of a few", k.get(0, "other", 10), "ends 0 told 512");
            byte[] due = Arrays.copyOf(Rig.rows(512, 100), 512);
            System.arraycopy(bytes, 0, due, 0, n);
            System.arraycopy(Rig.rows(512, 100), 0, due, 0, 10);
            Check.due("no more than wanted", k.got(0, Math.max(n, 10)), Arrays.copyOf(due, Math.max(n, 10)));
        }
    }

    /** The blocks themselves, byte by byte. */
    private static void layout() {
        Keeper k = new Keeper(1).start();
        byte[] key = Rig.rows(32, 66);
        byte[] bytes = Rig.rows(300, 5);
        k.put(0, "ab", bytes);
        byte[][] due = new byte[5][256];
        for (int part = 0; part < 2; part++) {
            byte[] nonce = {0, 0, 0, 0, 0, 0, 0, 1, 0, 0, 0, (byte) part};
            due[part] = Model.chacha(key, nonce, Arrays.copyOfRange(Arrays.copyOf(bytes, 512), 256 * part, 256 * part + 256));
        }
        byte[] object = due[2];
        object[1] = 2;
        object[2] = 'a';
        object[3] = 'b';
        object[18] = 1;
        object[19] = 44;
        object[27] = 1;
        place(object, 28, 0, due[0]);
        place(object, 61, 1, due[1]);
        for (int i = 0; i < 7; i++) {
            due[3][33 * i] = (byte) 255;
            due[4][33 * i] = (byte) 255;
        }
        place(due[3], 0, 2, object);
        place(due[4], 33 * (('a' + 'b') % 7), 3, due[3]);
        for (int i = 0; i < 5; i++) {
            Check.due("block " + i, k.rig.block(i), due[i]);
        }
        Check.due("the next block", k.rig.block(5), new byte[256]);
        k.put(0, "ab", new byte[] {9});
        for (int i = 0; i < 5; i++) {
            Check.due("the old block " + i + " stays", k.rig.block(i), due[i]);
        }
        Check.due("its number is the next one", k.rig.machine.disk(6, 27, 0), 2);
        Check.due("blocks in use", k.rig.kept(0), "1 1 4");
        k.put(0, "ab", new byte[0]);
        Check.due("freed blocks are taken again, the lowest first", k.rig.machine.disk(0, 27, 0), 3);
    }

    /** Behind an object's last byte there are 0s, whatever was put before. */
    private static void padding() {
        Keeper k = new Keeper(1).start();
        byte[] key = Rig.rows(32, 66);
        byte[] bytes = Rig.rows(512, 9);
        k.put(0, "x", bytes);
        k.put(0, "x", Arrays.copyOf(bytes, 257));
        Check.due("DATA 1 of 257 bytes", k.rig.block(6), Model.chacha(key, new byte[] {0, 0, 0, 0, 0, 0, 0, 2, 0, 0, 0, 1},
                Arrays.copyOf(Arrays.copyOfRange(bytes, 256, 257), 256)));
        k.put(0, "x", Arrays.copyOf(bytes, 1));
        Check.due("DATA 0 of 1 byte", k.rig.block(0), Model.chacha(key, new byte[] {0, 0, 0, 0, 0, 0, 0, 3, 0, 0, 0, 0},
                Arrays.copyOf(Arrays.copyOf(bytes, 1), 256)));
    }

    private static void place(byte[] holder, int at, int block, byte[] bytes) {
        holder[at] = (byte) block;
        System.arraycopy(Model.sha(bytes), 0, holder, at + 1, 32);
    }

    private static void names() {
        Keeper k = new Keeper(1).start();
        String[] names = {"a", "a\0", "\0", "\0\0", "\u00ff", "0123456789abcdef", "0123456789abcde", "b", "A"};
        for (int i = 0; i < names.length; i++) {
            Check.due("PUT " + i, k.put(0, names[i], Rig.rows(i + 1, i)), "ends 0");
        }
        for (int i = 0; i < names.length; i++) {
            Check.due("HAS " + i, k.has(0, names[i]), "ends 0 told " + (i + 1));
        }
        Check.due("one that is not", k.has(0, "a\0\0"), "ends 7 told 0");
        Check.due("KEPT", k.rig.kept(0).startsWith("9 9 "), true);
    }

    private static void deleting() {
        Keeper k = new Keeper(1).start();
        Check.due("DELETE of none", k.delete(0, "a"), "ends 7");
        k.put(0, "a", new byte[] {1});
        k.put(0, "h", new byte[] {2});
        k.put(0, "b", new byte[] {3});
        Check.due("two in one NODE, one in another", k.rig.kept(0), "3 3 9");
        Check.due("DELETE", k.delete(0, "a"), "ends 0");
        Check.due("KEPT", k.rig.kept(0), "2 2 7");
        Check.due("COUNT", k.rig.count(), 4);
        Check.due("it is gone", k.has(0, "a"), "ends 7 told 0");
        Check.due("DELETE of a NODE's last", k.delete(0, "h"), "ends 0");
        Check.due("KEPT", k.rig.kept(0), "1 1 4");
        Check.due("DELETE of the last", k.delete(0, "b"), "ends 0");
        Check.due("KEPT", k.rig.kept(0), "0 0 0");
        Check.due("COUNT", k.rig.count(), 6);
        Check.due("DELETE again", k.delete(0, "b"), "ends 7");
        Check.due("PUT again", k.put(0, "b", new byte[] {3}), "ends 0");
        Check.due("KEPT", k.rig.kept(0), "1 1 4");
    }

    /** Names of one NODE. */
    private static void fullNode() {
        Keeper k = new Keeper(1).start();
        String[] names = {"a", "h", "o", "v", "L", "S", "Z", "E"};
        for (int i = 0; i < 7; i++) {
            Check.due("PUT " + names[i], k.put(0, names[i], new byte[0]), "ends 0");
        }
        Check.due("KEPT", k.rig.kept(0), "7 7 9");
        Check.due("an eighth", k.put(0, names[7], new byte[0]), "ends 4");
        Check.due("nothing is changed", k.rig.count(), 7);
        int first = findObject(k, 'a');
        k.put(0, "b", new byte[] {1});
        int data = k.rig.machine.disk(findObject(k, 'b'), 28, 0);
        k.rig.machine.disk(data, 0, 1);
        Check.due("no place comes ahead of a tree that is not whole", k.put(0, names[7], new byte[0]), "ends 4");
        Check.due("which is 6 when there is one", k.put(0, "c", new byte[0]), "ends 6");
        k.rig.machine.disk(data, 0, 1);
        Check.due("DELETE", k.delete(0, "b"), "ends 0");
        Check.due("the first OBJECT is still there", k.rig.machine.disk(first, 2, 0), 'a');
        Check.due("one of another NODE", k.put(0, "b", new byte[0]), "ends 0");
        Check.due("one that is there", k.put(0, "o", new byte[] {1}), "ends 0");
        Check.due("DELETE", k.delete(0, "v"), "ends 0");
        Check.due("now there is room", k.put(0, names[7], new byte[0]), "ends 0");
        // b is in NODE 0, the others are in NODE 6
        Check.due("in the order of the tree", k.list(0, 4), "ends 0 told 1");
        Check.due("it has the place that was empty", k.listed(0).charAt(0), 'E');
    }

    /** The block of the latest OBJECT with this name. */
    private static int findObject(Keeper k, char name) {
        int found = 0;
        int number = -1;
        for (int block = 0; block < 64; block++) {
            byte[] b = k.rig.block(block);
            if (b[1] == 1 && b[2] == name && b[3] == 0 && b[27] > number) {
                found = block;
                number = b[27];
            }
        }
        return found;
    }

    private static void fullDisk() {
        Keeper k = new Keeper(1).start();
        int kept = 0;
        String answer = "ends 0";
        for (int i = 0; i < 30 && answer.equals("ends 0"); i++) {
            answer = k.put(0, String.valueOf((char) ('A' + i)), Rig.rows(512, i));
            kept += answer.equals("ends 0") ? 1 : 0;
        }
        Check.due("the disk is full", answer, "ends 4");
        // 1 ROOT, 7 NODES and 3 for each; the next PUT takes 5 more
        Check.due("so many are kept", kept, 18);
        Check.due("KEPT", k.rig.kept(0), "18 18 62");
        Check.due("COUNT", k.rig.count(), 18);
        Check.due("a PUT that needs fewer is too much, too", k.put(0, "A", new byte[0]), "ends 4");
        Check.due("DELETE needs NODE and ROOT", k.delete(0, "A"), "ends 0");
        Check.due("KEPT", k.rig.kept(0), "17 17 59");
        Check.due("GET of the others", k.get(0, "B", 512), "ends 0 told 512");
        Check.due("its bytes", k.got(0, 512), Rig.rows(512, 1));
        Check.due("PUT with just enough", k.put(0, "A", Rig.rows(512, 77)), "ends 0");
        Check.due("KEPT", k.rig.kept(0), "18 18 62");
    }

    private static void list() {
        Keeper k = new Keeper(2).start();
        Check.due("LIST of none", k.list(0, 0), "ends 7 told 0");
        k.put(0, "b", new byte[0]);
        k.put(1, "b", new byte[0]);
        k.put(0, "abc", new byte[0]);
        k.put(0, "0123456789abcdef", new byte[0]);
        // NODES 0 .. 6 of the ROOT: b is in 0, abc in 0, the long one in 5; b of product 1 in 1
        String[] due = {"b\0\0\0\0\0\0\0\0\0\0\0\0\0\0\0", "abc\0\0\0\0\0\0\0\0\0\0\0\0\0", "0123456789abcdef"};
        for (int i = 0; i < 3; i++) {
            Check.due("LIST " + i, k.list(0, i), "ends 0 told " + due[i].trim().length());
            Check.due("its name", k.listed(0), due[i]);
        }
        Check.due("LIST 3", k.list(0, 3), "ends 7 told 0");
        Check.due("LIST of the greatest word", k.list(0, -1), "ends 7 told 0");
        Check.due("LIST of the other", k.list(1, 0), "ends 0 told 1");
        Check.due("LIST of the other", k.list(1, 1), "ends 7 told 0");
    }

    /** Objects are of a PRODUCT: another ENTRY of it has them, too. */
    private static void products() {
        Keeper k = new Keeper(2);
        k.rig.machine.product(0, 6, 1);
        k.rig.machine.product(1, 6, 2);
        k.rig.start();
        k.rig.bringIn(k.images[0]);
        k.rig.open(0);
        Check.due("PUT", k.put(0, "a", Rig.rows(40, 1)), "ends 0");
        Check.due("KEPT of the product", k.rig.kept(6), "1 1 4");
        Check.due("KEPT of the entry's number", k.rig.kept(0), "0 1 4");
        Check.due("byte 0 of the OBJECT", k.rig.machine.disk(1, 0, 0), 6);
        k.rig.machine.call(4, 0, 0, 0);
        Check.due("LOAD", k.rig.bringIn(k.images[1]), 0);
        k.rig.open(1);
        Check.due("GET by the other one", k.get(0, "a", 100), "ends 0 told 40");
        Check.due("its bytes", k.got(0, 40), Rig.rows(40, 1));

        Keeper apart = new Keeper(2).start();
        apart.put(0, "a", new byte[] {1});
        Check.due("another product has not", apart.has(1, "a"), "ends 7 told 0");
        apart.put(1, "a", new byte[] {1, 2});
        Check.due("HAS", apart.has(0, "a"), "ends 0 told 1");
        Check.due("HAS", apart.has(1, "a"), "ends 0 told 2");
        Check.due("KEPT", apart.rig.kept(1), "1 2 7");
    }

    /** Any byte of any block of the tree that is edited makes it CORRUPT, and is well again when put right. */
    private static void corruption() {
        Keeper k = new Keeper(1).start();
        k.put(0, "ab", Rig.rows(300, 5));
        for (int block = 0; block < 5; block++) {
            for (int at = 0; at < 256; at += block < 2 ? 51 : 17) {
                k.rig.machine.disk(block, at, 1 << at % 8);
                Check.due("KEPT with byte " + at + " of block " + block + " edited", k.rig.kept(0), "code 6");
                k.rig.machine.disk(block, at, 1 << at % 8);
            }
        }
        Check.due("KEPT", k.rig.kept(0), "1 1 5");
        k.rig.machine.disk(5, 5, 5);
        Check.due("a block that is not of the tree", k.rig.kept(0), "1 1 5");
        k.rig.machine.disk(0, 3, 8);
        Check.due("GET with its DATA edited", k.get(0, "ab", 0), "ends 6 told 0");
        Check.due("HAS does not read it", k.has(0, "ab"), "ends 0 told 300");
        Check.due("PUT looks at all", k.put(0, "ab", new byte[] {1}), "ends 6");
        Check.due("DELETE, too", k.delete(0, "ab"), "ends 6");
        Check.due("LIST does not", k.list(0, 0), "ends 0 told 2");
        Check.due("nothing is changed", k.rig.count(), 1);
        k.rig.machine.disk(0, 3, 8);
        k.rig.machine.disk(2, 200, 8);
        Check.due("GET with its OBJECT edited", k.get(0, "ab", 512), "ends 6 told 0");
        Check.due("HAS", k.has(0, "ab"), "ends 6 told 0");
        Check.due("LIST", k.list(0, 0), "ends 6 told 0");
        k.rig.machine.disk(2, 200, 8);
        Check.due("an older state of the ROOT", k.rig.machine.replay(4), true);
        Check.due("is none", k.has(0, "ab"), "ends 6 told 0");
    }

    private static void whatIsReadOnTheWay() {
        Keeper k = new Keeper(1).start();
        k.put(0, "a", new byte[0]);
        k.put(0, "h", new byte[0]);
        k.put(0, "b", new byte[0]);
        int[] objects = {findObject(k, 'a'), findObject(k, 'h'), findObject(k, 'b')};
        k.rig.machine.disk(objects[1], 255, 1);
        Check.due("an OBJECT ahead of it is found", k.has(0, "a"), "ends 0 told 0");
        Check.due("LIST as far as it is found", k.list(0, 0), "ends 0 told 1");
        Check.due("itself is not whole", k.has(0, "h"), "ends 6 told 0");
        Check.due("one behind it is looked for", k.has(0, "o"), "ends 6 told 0");
        Check.due("another NODE is not read", k.has(0, "b"), "ends 0 told 0");
        Check.due("PUT of it looks at all", k.put(0, "b", new byte[0]), "ends 6");
        Check.due("a NODE that is none", k.has(0, "c"), "ends 7 told 0");
        Check.due("DELETE of none is 7 ahead of that", k.delete(0, "c"), "ends 7");
        k.rig.machine.disk(objects[1], 255, 1);
        k.rig.machine.disk(objects[2], 255, 1);
        Check.due("the other way round", k.has(0, "h"), "ends 0 told 0");
        Check.due("the other way round", k.has(0, "b"), "ends 6 told 0");
    }
}
