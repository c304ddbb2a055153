import java.lang.reflect.Field;
import java.util.ArrayList;
import java.util.Arrays;
import java.util.List;
import java.util.Random;

/**
 * Trees that the machine did not write itself: any that are WHOLE, and some that are nearly so. The normal
 * world can lay every byte of them by disk(), but for the CELL's SEAL: that is set from inside here, in the
 * place of two contents of a BLOCK that have one DIGEST.
 */
public final class TreesTest {
    private static final int PUT = 0;
    private static final int GET = 1;
    private static final int DELETE = 2;
    private static final int HAS = 3;
    private static final int LIST = 4;
    private static final int DEAL = 5;

    /** In a DEAL's second word: the name's length, what is done, and how many bytes are PUT. */
    private static final int LENGTH = 1 << 20;
    private static final int DELETES = 1 << 16;
    private static final int NOTHING = 1 << 17;

    private final Random random;
    private final TrustedMachine machine = new TrustedMachine();
    private final Model model = new Model();
    private final List<String> said = new ArrayList<>();
    /** Whether the random tree takes nearly all blocks. */
    private boolean dense;

    private TreesTest(long seed) {
        random = new Random(seed);
        begin();
    }

    public static void main(String[] args) throws ReflectiveOperationException {
        blocksThatWereNeverTouched();
        numbersOfEightBytes();
        deleteBesideAnEmptyNode();
        commitOfNothing();
        formOfRootAndNode();
        formOfAnObject();
        objectWithoutAName();
        formIsLookedAtAgain();
        allBlocksInUse();
        numbersOfBlocks();
        placesThatNameOneBlock();
        int last = args.length > 0 ? Integer.parseInt(args[0]) : 1500;
        for (int seed = 1; seed <= last; seed++) {
            new TreesTest(seed).randomTree();
        }
        Check.finish();
    }

    // ---- the applet

    private void begin() {
        byte[] image = Code.image(4, commands());
        byte[] key = Rig.rows(32, 77);
        feed(key);
        machine.key();
        model.key();
        feed(image);
        machine.burn(7);
        model.burn(7);
        machine.product(0, 3, 0);
        model.product(0, 3, 0);
        machine.boot();
        model.boot();
        for (int page = 16; page < 20; page++) {
            call(1, page, 0, 0);
        }
        machine.store(0);
        model.store(0);
        call(3, 0, image.length, 0);
        call(5, 0, 0, 0);
    }

    private void feed(byte[] bytes) {
        for (int i = 0; i < bytes.length; i += 20) {
            java.nio.ByteBuffer b = java.nio.ByteBuffer.wrap(Arrays.copyOfRange(bytes, i, i + 20));
            int[] w = {b.getInt(), b.getInt(), b.getInt(), b.getInt(), b.getInt()};
            machine.feed(w[0], w[1], w[2], w[3], w[4]);
            model.feed(w[0], w[1], w[2], w[3], w[4]);
        }
        machine.end(bytes.length);
        model.end(bytes.length);
    }

    private static Code[] commands() {
        Code[] commands = new Code[6];
        int begins = 0;
        for (int i = 0; i < 6; i++) {
            commands[i] = i == DEAL ? deal(begins) : single(i, begins);
            begins += commands[i].size();
        }
        return commands;
    }

    /** Parameter 0: name and its length; 1: size or number, and a word of the content; 2: goes out. */
    private static Code single(int sort, int begins) {
        Code code = new Code(begins);
        code.push(0).sys(Code.FIRST).push(600).op(Code.STOREW);
        code.push(1).sys(Code.SECOND).push(sort == PUT ? 260 : 900).op(Code.STOREW);
        if (sort == PUT || sort == GET) {
            code.push(0);
        }
        if (sort == PUT || sort == LIST) {
            code.push(1).sys(Code.FIRST);
        } else if (sort == GET) {
            code.push(512);
        }
        if (sort == LIST) {
            code.push(0).sys(Code.LIST);
        } else {
            code.push(600, 0).sys(Code.SECOND);
            code.sys(sort == PUT ? Code.PUT : sort == GET ? Code.GET : sort == DELETE ? Code.DELETE : Code.HAS);
        }
        if (sort == PUT || sort == DELETE) {
            return code.end();
        }
        code.sys(Code.HASH, 0, 512, 800).push(800).op(Code.LOADW).push(2).sys(Code.SETFIRST);
        return code.op(Code.SWAP).push(1000).op(Code.MUL, Code.ADD).end();
    }

    /** All four parameters: what is noted, one behind the other; ends with the codes, four bits each. */
    private static Code deal(int begins) {
        Code code = new Code(begins);
        code.sys(Code.BEGIN);
        for (int i = 0; i < 4; i++) {
            code.push(i).sys(Code.SECOND).push(NOTHING).op(Code.AND);
            Code noted = noted(i, code.place() + 6);
            code.jump(Code.JZERO, code.place() + 6).jump(Code.JUMP, code.place() + 3 + noted.size());
            code.raw(toInts(noted.bytes()));
        }
        return code.sys(Code.COMMIT).op(Code.SWAP).push(4).op(Code.SHL, Code.ADD).end();
    }

    private static Code noted(int i, int begins) {
        Code code = new Code(begins);
        code.push(i).sys(Code.FIRST).push(600 + 4 * i).op(Code.STOREW);
        code.push(i).sys(Code.SECOND).push(DELETES).op(Code.AND);
        Code put = new Code(begins + code.size() + 3);
        put.push(0, i).sys(Code.SECOND).push(1023).op(Code.AND).push(600 + 4 * i, i).sys(Code.SECOND).push(20).op(Code.SHR);
        put.sys(Code.PUT);
        Code delete = new Code();
        delete.push(600 + 4 * i, i).sys(Code.SECOND).push(20).op(Code.SHR).sys(Code.DELETE);
        code.jump(Code.JZERO, code.place() + 3 + delete.size() + 3);
        code.raw(toInts(delete.bytes()));
        code.jump(Code.JUMP, code.place() + 3 + put.size());
        code.raw(toInts(put.bytes()));
        return code.op(Code.SWAP).push(4).op(Code.SHL, Code.ADD);
    }

    private static int[] toInts(byte[] bytes) {
        int[] out = new int[bytes.length];
        for (int i = 0; i < out.length; i++) {
            out[i] = bytes[i];
        }
        return out;
    }

    // ---- calls, held against the model

    private String call(int number, int x, int y, int z) {
        StringBuilder got = new StringBuilder();
        StringBuilder want = new StringBuilder();
        got.append(machine.call(number, x, y, z));
        want.append(model.call(number, x, y, z));
        for (int i = 0; i < 4; i++) {
            got.append(' ').append(machine.result(i));
            want.append(' ').append(model.result(i));
        }
        said.add("call " + number + " " + x + " " + y + " " + z);
        boolean same = got.toString().equals(want.toString());
        Check.due(same ? "" : said.toString(), got.toString(), want.toString());
        return want.toString();
    }

    /** A command with eight words of values, sorts 1, and 3 for parameter 2: code, RESULT 0 and what went out. */
    private String invoke(int command, int... words) {
        java.nio.ByteBuffer b = java.nio.ByteBuffer.allocate(48).order(java.nio.ByteOrder.LITTLE_ENDIAN);
        for (int i = 0; i < 4; i++) {
            b.putInt(i == 2 ? 3 : 1).putInt(2 * i < words.length ? words[2 * i] : 0);
            b.putInt(2 * i + 1 < words.length ? words[2 * i + 1] : 0);
        }
        said.add("command " + command + " " + Arrays.toString(words));
        machine.end(0);
        model.end(0);
        feed(b.array());
        machine.store(2000);
        model.store(2000);
        String answer = call(7, 0, command, 2000);
        for (int i = 0; i < 4; i++) {
            Check.due("load behind command " + command, machine.load(2028 + i), model.load(2028 + i));
        }
        return answer;
    }

    private void compareDisks() {
        byte[] got = new byte[64 * 256];
        byte[] want = new byte[64 * 256];
        for (int i = 0; i < got.length; i++) {
            got[i] = (byte) machine.disk(i / 256, i % 256, 0);
            want[i] = model.disk[i / 256][i % 256];
        }
        Check.due(said + " and the disk", Arrays.equals(got, want), true);
    }

    // ---- laying trees

    private void lay(int block, byte[] bytes) {
        for (int k = 0; k < 256; k++) {
            if (bytes[k] != model.disk[block][k]) {
                int mask = bytes[k] ^ model.disk[block][k];
                machine.disk(block, k, mask);
                model.disk(block, k, mask);
            }
        }
    }

    private void setRoot(int block) throws ReflectiveOperationException {
        Field field = TrustedMachine.class.getDeclaredField("vault");
        field.setAccessible(true);
        TrustedMachine.Vault vault = (TrustedMachine.Vault) field.get(machine);
        vault.root = block;
        System.arraycopy(block == 255 ? new byte[32] : Model.sha(model.disk[block]), 0, vault.seal, 0, 32);
        model.setRoot(block);
    }

    /** A place that names a block as it is now. */
    private void name(byte[] holder, int at, int block) {
        holder[at] = (byte) block;
        System.arraycopy(Model.sha(model.disk[block]), 0, holder, at + 1, 32);
    }

    private static byte[] emptyNode() {
        byte[] node = new byte[256];
        for (int i = 0; i < 7; i++) {
            node[33 * i] = (byte) 255;
        }
        return node;
    }

    /** Names the blocks, 255 for none. */
    private void layNode(int block, int... places) {
        byte[] node = emptyNode();
        for (int i = 0; i < places.length; i++) {
            if (places[i] != 255) {
                name(node, 33 * i, places[i]);
            }
        }
        lay(block, node);
    }

    private byte[] object(int product, String name, int size, long number, int... data) {
        byte[] object = new byte[256];
        object[0] = (byte) product;
        object[1] = (byte) name.length();
        for (int i = 0; i < name.length(); i++) {
            object[2 + i] = (byte) name.charAt(i);
        }
        object[18] = (byte) (size >> 8);
        object[19] = (byte) size;
        java.nio.ByteBuffer.wrap(object).putLong(20, number);
        for (int k = 0; k < data.length; k++) {
            name(object, 28 + 33 * k, data[k]);
        }
        return object;
    }

    private static int way(int product, String name) {
        int sum = product;
        for (int i = 0; i < name.length(); i++) {
            sum += name.charAt(i);
        }
        return sum % 7;
    }

    private static int word(String name) {
        int w = 0;
        for (int i = name.length() - 1; i >= 0; i--) {
            w = w << 8 | name.charAt(i);
        }
        return w;
    }

    /** A ROOT in block 0 with the node in the place of a name of product 3, and nothing else. */
    private int[] rootFor(String name, int node) {
        int[] places = {255, 255, 255, 255, 255, 255, 255};
        places[way(3, name)] = node;
        return places;
    }

    // ---- what the issues told of

    /** Part IV: the DIGEST of a BLOCK that no call has touched is that of 256 bytes 0. */
    private static void blocksThatWereNeverTouched() throws ReflectiveOperationException {
        TreesTest t = new TreesTest(1);
        t.lay(2, t.object(3, "n", 300, 9, 40, 63));
        t.layNode(1, 2);
        t.layNode(0, t.rootFor("n", 1));
        t.setRoot(0);
        Check.due("KEPT with DATA that was never touched", t.call(10, 3, 0, 0), "0 1 1 5 0");
        Check.due("GET of it", t.invoke(GET, word("n"), 1, 0, 0).substring(0, 6), "0 300 ");
        Check.due("HAS of it", t.invoke(HAS, word("n"), 1, 0, 0).substring(0, 6), "0 300 ");
        Check.due("PUT beside it", t.invoke(PUT, word("nu"), 2, 3, 0), "0 0 0 0 0");

        TreesTest zeros = new TreesTest(1);
        byte[] object = zeros.object(3, "n", 300, 9, 40, 63);
        Arrays.fill(object, 29, 61, (byte) 0);
        zeros.lay(2, object);
        zeros.layNode(1, 2);
        zeros.layNode(0, zeros.rootFor("n", 1));
        zeros.setRoot(0);
        Check.due("KEPT with a place that says 32 bytes 0", zeros.call(10, 3, 0, 0), "6 0 0 0 0");
        Check.due("GET of it", zeros.invoke(GET, word("n"), 1, 0, 0).substring(0, 7), "0 6000 ");
        Check.due("PUT beside it", zeros.invoke(PUT, word("nu"), 2, 3, 0), "0 6 0 0 0");
        Check.due("DELETE of it", zeros.invoke(DELETE, word("n"), 1), "0 6 0 0 0");
    }

    /** SYS 9 GET: the nonce begins with the NUMBER's eight bytes. */
    private static void numbersOfEightBytes() throws ReflectiveOperationException {
        for (long number : new long[] {1, 1L << 32, -1, 0x8000000000000000L, 0x0102030405060708L}) {
            TreesTest t = new TreesTest(1);
            t.lay(3, Rig.rows(256, 5));
            t.lay(4, Rig.rows(256, 6));
            t.lay(2, t.object(3, "n", 512, number, 3, 4));
            t.layNode(1, 2);
            t.layNode(0, t.rootFor("n", 1));
            t.setRoot(0);
            Check.due("GET with the NUMBER " + number, t.invoke(GET, word("n"), 1).substring(0, 6), "0 512 ");
        }
    }

    /** In block 0 a ROOT with the NODE of 'n', which has 'n' alone, and beside it an empty NODE. */
    private static TreesTest emptyNodeBesideOne(int parts) throws ReflectiveOperationException {
        TreesTest t = new TreesTest(1);
        t.lay(3, t.object(3, "n", 256 * parts, 1, Arrays.copyOf(new int[] {10, 11}, parts)));
        t.layNode(1, 255, 255, 3);
        t.layNode(2);
        int[] places = t.rootFor("n", 1);
        places[(way(3, "n") + 1) % 7] = 2;
        t.layNode(0, places);
        t.setRoot(0);
        Check.due("KEPT with an empty NODE", t.call(10, 3, 0, 0), "0 1 1 " + (4 + parts) + " 0");
        return t;
    }

    /** Part IV, DELETE: the ROOT has still a place, so it is written; COMMIT: an empty NODE is none. */
    private static void deleteBesideAnEmptyNode() throws ReflectiveOperationException {
        for (int parts = 0; parts < 3; parts++) {
            TreesTest t = emptyNodeBesideOne(parts);
            Check.due("DELETE", t.invoke(DELETE, word("n"), 1), "0 0 0 0 0");
            Check.due("KEPT behind DELETE", t.call(10, 3, 0, 0), "0 0 0 2 0");
            t.compareDisks();
            Check.due("PUT behind DELETE", t.invoke(PUT, word("n"), 1, 3, 4), "0 0 0 0 0");
            Check.due("KEPT behind PUT", t.call(10, 3, 0, 0), "0 1 1 5 0");

            t = emptyNodeBesideOne(parts);
            Check.due("COMMIT of the DELETE", t.deal(note("n", DELETES)), "0 0 0 0 0");
            Check.due("KEPT behind COMMIT", t.call(10, 3, 0, 0), "0 0 0 0 0");
            Check.due("COUNT behind COMMIT", t.call(11, 0, 0, 0), "0 1 0 0 0");
            t.compareDisks();
            Check.due("PUT behind COMMIT", t.invoke(PUT, word("n"), 1, 3, 4), "0 0 0 0 0");
            Check.due("KEPT behind PUT", t.call(10, 3, 0, 0), "0 1 1 4 0");

            t = emptyNodeBesideOne(parts);
            Check.due("COMMIT of a PUT", t.deal(note("n", 1)), "0 0 0 0 0");
            Check.due("KEPT behind it: the empty NODE is none", t.call(10, 3, 0, 0), "0 1 1 4 0");
            t.compareDisks();
        }
    }

    /** COMMIT that changes no place writes nothing, though all NODES are empty. */
    private static void commitOfNothing() throws ReflectiveOperationException {
        TreesTest t = new TreesTest(1);
        t.layNode(2);
        t.layNode(0, 2, 2, 255, 2);
        t.setRoot(0);
        Check.due("COMMIT of a PUT that is taken back", t.deal(note("n", 5), note("n", DELETES)), "0 0 0 0 0");
        Check.due("COMMIT without notes", t.deal(), "0 0 0 0 0");
        Check.due("KEPT behind it", t.call(10, 3, 0, 0), "0 0 0 2 0");
        Check.due("COUNT behind it", t.call(11, 0, 0, 0), "0 0 0 0 0");
        t.compareDisks();
    }

    // ---- the form of each BLOCK

    /** ROOT 0, NODE 1 and OBJECT 2 of 'n' with its DATA in 3 and 4; one byte of a BLOCK is another one, and named so. */
    private static TreesTest chain(int size, int block, int at, int value) throws ReflectiveOperationException {
        TreesTest t = new TreesTest(1);
        t.lay(3, Rig.rows(256, 5));
        t.lay(4, Rig.rows(256, 6));
        t.lay(2, t.object(3, "n", size, 9, Arrays.copyOf(new int[] {3, 4}, (size + 255) / 256)));
        t.spoil(2, block, at, value);
        t.layNode(1, 2);
        t.spoil(1, block, at, value);
        t.layNode(0, t.rootFor("n", 1));
        t.spoil(0, block, at, value);
        t.setRoot(0);
        return t;
    }

    private void spoil(int now, int block, int at, int value) {
        if (now == block) {
            byte[] bytes = model.disk[block].clone();
            bytes[at] = (byte) value;
            lay(block, bytes);
        }
    }

    /** All that comes by the OBJECT 'n' answers 6, and nothing is changed. */
    private void allAreCorrupt(String what) {
        Check.due(what + ": KEPT", call(10, 3, 0, 0), "6 0 0 0 0");
        Check.due(what + ": HAS", invoke(HAS, word("n"), 1).substring(0, 7), "0 6000 ");
        Check.due(what + ": GET", invoke(GET, word("n"), 1).substring(0, 7), "0 6000 ");
        Check.due(what + ": LIST", invoke(LIST, 0, 0, 0).substring(0, 7), "0 6000 ");
        Check.due(what + ": PUT", invoke(PUT, word("n"), 1, 3, 0), "0 6 0 0 0");
        Check.due(what + ": DELETE", invoke(DELETE, word("n"), 1), "0 6 0 0 0");
        Check.due(what + ": COMMIT", deal(note("m", 1)), "0 6 0 0 0");
        Check.due(what + ": COUNT", call(11, 0, 0, 0), "0 0 0 0 0");
        compareDisks();
    }

    /** "it is of its form: of ROOT and NODE 0s for none and in the rest". */
    private static void formOfRootAndNode() throws ReflectiveOperationException {
        for (int block = 0; block < 2; block++) {
            int used = block == 0 ? way(3, "n") : 0;
            for (int i = 0; i < 7; i++) {
                if (i != used) {
                    chain(300, block, 33 * i + 1, 1).allAreCorrupt("block " + block + ", the first byte of place " + i);
                    chain(300, block, 33 * i + 32, 128).allAreCorrupt("block " + block + ", the last byte of place " + i);
                }
            }
            for (int at = 231; at < 256; at++) {
                chain(300, block, at, at % 2 == 0 ? 1 : 128).allAreCorrupt("block " + block + ", byte " + at);
            }
        }
    }

    /** "of an OBJECT byte 0 below 8, byte 1 1 .. 16, 0s behind the name, at most 512 bytes, 0s in the rest". */
    private static void formOfAnObject() throws ReflectiveOperationException {
        int[][] rows = {{300, 0, 7, 0}, {300, 0, 8, 1}, {300, 0, 255, 1}, {300, 1, 0, 1}, {300, 1, 1, 0}, {300, 1, 2, 0}, {300, 1, 16, 0},
            {300, 1, 17, 1}, {300, 1, 128, 1}, {300, 1, 255, 1}, {300, 2, 0, 0}, {300, 3, 1, 1}, {300, 17, 1, 1}, {300, 17, 128, 1},
            {512, 18, 2, 0}, {512, 19, 1, 1}, {512, 18, 3, 1}, {512, 18, 255, 1}, {300, 18, 0, 1}, {257, 19, 0, 1}, {257, 19, 255, 0},
            {300, 20, 255, 0}, {300, 27, 255, 0}, {0, 28, 1, 1}, {0, 28, 255, 1}, {0, 255, 1, 1}, {1, 60, 0, 1}, {1, 61, 1, 1},
            {256, 61, 255, 1}, {256, 255, 128, 1}, {257, 94, 1, 1}, {512, 94, 128, 1}, {512, 255, 1, 1}, {0, 27, 1, 0}, {256, 28, 5, 1},
            {512, 61, 5, 1}, {512, 93, 0, 1}, {0, 19, 1, 1}, {256, 18, 0, 1}};
        for (int[] r : rows) {
            TreesTest t = chain(r[0], 2, r[1], r[2]);
            String what = "an OBJECT of " + r[0] + " with byte " + r[1] + " " + r[2];
            Check.due(what + ": KEPT", t.call(10, 3, 0, 0).charAt(0), r[3] == 1 ? '6' : '0');
            boolean data = r[1] >= 28 && r[1] < 28 + 33 * ((r[0] + 255) / 256) || r[0] == 0 && r[1] == 19;
            if (r[3] == 1 && !data) {
                t.allAreCorrupt(what);
            }
        }
    }

    /** The same: an OBJECT without a name. */
    private static void objectWithoutAName() throws ReflectiveOperationException {
        TreesTest t = new TreesTest(1);
        t.lay(2, t.object(3, "", 0, 9));
        t.layNode(1, 2);
        t.layNode(0, t.rootFor("n", 1));
        t.setRoot(0);
        t.allAreCorrupt("an OBJECT without a name");
    }

    /** The same of a BLOCK that was of its form before, and is not any more. */
    private static void formIsLookedAtAgain() throws ReflectiveOperationException {
        for (int block = 0; block < 3; block++) {
            TreesTest t = chain(300, -1, 0, 0);
            Check.due("KEPT", t.call(10, 3, 0, 0), "0 1 1 5 0");
            t.spoil(2, block, 250, 1);
            if (block > 0) {
                t.layNode(1, 2);
                t.spoil(1, block, 250, 1);
                t.layNode(0, t.rootFor("n", 1));
            }
            t.spoil(0, block, 250, 1);
            t.setRoot(0);
            t.allAreCorrupt("block " + block + ", which was of its form");
            if (block == 0) {
                t.spoil(0, 0, 250, 0);
                t.setRoot(0);
                Check.due("KEPT when it is again", t.call(10, 3, 0, 0), "0 1 1 5 0");
            }
        }
    }

    /** "free BLOCKS are all others .. (4, if there are fewer)": there is none, and even a NODE's last cannot go. */
    private static void allBlocksInUse() throws ReflectiveOperationException {
        TreesTest t = new TreesTest(1);
        // DATA from 27 on; OBJECTS in 8 .. 26, their NODES in 1 .. 7, three to each but for the first, which has 'n' alone
        int data = 27;
        int[] places = new int[7];
        for (int node = 0, object = 8; node < 7; node++) {
            int many = node == 0 ? 1 : 3;
            int[] objects = new int[many];
            int at = (way(3, "n") + node) % 7;
            for (int k = 0; k < many; k++, object++) {
                String name = node == 0 ? "n" : "" + (char) ('n' + node + 7 * k);
                int parts = object == 8 ? 1 : 2;
                t.lay(object, t.object(3, name, 256 * parts, 1, Arrays.copyOf(new int[] {data, data + 1}, parts)));
                data += parts;
                objects[k] = object;
            }
            t.layNode(1 + node, objects);
            places[at] = 1 + node;
        }
        t.layNode(0, places);
        t.setRoot(0);
        Check.due("all are in use: KEPT", t.call(10, 3, 0, 0), "0 19 19 64 0");
        Check.due("DELETE of a NODE's last", t.invoke(DELETE, word("n"), 1), "0 4 0 0 0");
        Check.due("DELETE of another", t.invoke(DELETE, word("o"), 1), "0 4 0 0 0");
        Check.due("PUT of what is there", t.invoke(PUT, word("n"), 1, 0, 0), "0 4 0 0 0");
        Check.due("COMMIT of a NODE's last", t.deal(note("n", DELETES)), "0 4 0 0 0");
        Check.due("COMMIT of nothing", t.deal(), "0 0 0 0 0");
        Check.due("COMMIT of what is not there", t.deal(note("a", 5), note("a", DELETES)), "0 0 0 0 0");
        Check.due("COUNT", t.call(11, 0, 0, 0), "0 0 0 0 0");
        t.compareDisks();
    }

    /** "A BLOCK is WHOLE if its number is below 64". */
    private static void numbersOfBlocks() throws ReflectiveOperationException {
        int[][] places = {{0, 33 * way(3, "n")}, {1, 0}, {2, 28}, {2, 61}};
        for (int[] p : places) {
            for (int number : new int[] {63, 64, 65, 127, 128, 254, 255}) {
                TreesTest t = chain(300, p[0], p[1], number);
                String what = "block " + p[0] + " with the number " + number + " at " + p[1];
                Check.due(what + ": KEPT", t.call(10, 3, 0, 0), "6 0 0 0 0");
                String has = t.invoke(HAS, word("n"), 1).substring(0, 6);
                Check.due(what + ": HAS", has, p[0] == 2 ? "0 300 " : "0 6000");
                Check.due(what + ": GET", t.invoke(GET, word("n"), 1).substring(0, 6), "0 6000");
                t.compareDisks();
            }
        }
        for (int[] p : places) {
            for (int at : new int[] {1, 32}) {
                int value = chain(300, -1, 0, 0).model.disk[p[0]][p[1] + at] ^ 1;
                Check.due("block " + p[0] + " with a DIGEST that differs in byte " + at + " at " + p[1],
                        chain(300, p[0], p[1] + at, value).call(10, 3, 0, 0), "6 0 0 0 0");
            }
        }
        TreesTest last = new TreesTest(1);
        last.lay(63, last.object(3, "n", 0, 9));
        last.layNode(62, 63);
        last.layNode(61, last.rootFor("n", 62));
        last.setRoot(61);
        Check.due("the last blocks: KEPT", last.call(10, 3, 0, 0), "0 1 1 3 0");
        Check.due("the last blocks: HAS", last.invoke(HAS, word("n"), 1).substring(0, 4), "0 0 ");
    }

    /** "(each place of a NODE that names one is one)"; "each BLOCK once". */
    private static void placesThatNameOneBlock() throws ReflectiveOperationException {
        TreesTest t = new TreesTest(1);
        t.lay(3, Rig.rows(256, 5));
        t.lay(2, t.object(3, "n", 300, 9, 3, 3));
        t.layNode(1, 2, 255, 2, 2);
        t.layNode(0, 1, 1, 1, 1, 1, 1, 255);
        t.setRoot(0);
        Check.due("KEPT", t.call(10, 3, 0, 0), "0 18 18 4 0");
        Check.due("KEPT of another", t.call(10, 4, 0, 0), "0 0 18 4 0");
        Check.due("LIST 17", t.invoke(LIST, 0, 0, 17).substring(0, 4), "0 1 ");
        Check.due("LIST 18", t.invoke(LIST, 0, 0, 18).substring(0, 6), "0 7000");
    }

    private static int[] note(String name, int what) {
        return new int[] {word(name), LENGTH * name.length() + what};
    }

    private String deal(int[]... notes) {
        int[] words = new int[8];
        for (int i = 0; i < 4; i++) {
            words[2 * i] = i < notes.length ? notes[i][0] : 0;
            words[2 * i + 1] = i < notes.length ? notes[i][1] : NOTHING;
        }
        return invoke(DEAL, words);
    }

    // ---- trees of all sorts

    private int pick(int n) {
        return random.nextInt(n);
    }

    private boolean chance(int percent) {
        return random.nextInt(100) < percent;
    }

    private String anyName() {
        return "" + "abcdefgh".charAt(pick(dense ? 8 : 3)) + (chance(50) ? "" : chance(50) ? "n" : "\u00ff");
    }

    private int anyProduct() {
        return chance(dense ? 90 : 75) ? 3 : pick(8);
    }

    /** Blocks for OBJECTS and NODES, the ROOT's one last; the rest is for DATA, or free. */
    private int[] shuffled() {
        List<Integer> all = new ArrayList<>();
        for (int i = 0; i < 64; i++) {
            all.add(i);
        }
        java.util.Collections.shuffle(all, random);
        return all.stream().mapToInt(i -> i).toArray();
    }

    private void randomTree() throws ReflectiveOperationException {
        int[] blocks = shuffled();
        dense = chance(50);
        int objects = dense ? 16 + pick(6) : pick(10);
        int nodes = dense ? 7 : 1 + pick(7);
        int taken = objects + nodes + 1;
        int data = Math.min(64 - taken, dense ? 2 * objects : pick(10));
        layData(blocks, taken, data);
        layObjects(blocks, objects, taken, data);
        layNodes(blocks, objects, nodes);
        byte[] root = emptyNode();
        for (int i = 0; i < 7; i++) {
            if (i < nodes || chance(50)) {
                name(root, 33 * i, blocks[objects + (i < nodes ? i : pick(nodes))]);
            }
        }
        spoilNode(root);
        lay(blocks[taken - 1], root);
        if (chance(5)) {
            layOverAgain(blocks[taken - 1]);
        } else {
            setRoot(blocks[taken - 1]);
        }
        int times = 4 + pick(8);
        for (int i = 0; i < times; i++) {
            act();
        }
        compareDisks();
    }

    private void layData(int[] blocks, int from, int n) {
        for (int i = from; i < from + n; i++) {
            if (chance(70)) {
                byte[] bytes = new byte[256];
                random.nextBytes(bytes);
                lay(blocks[i], bytes);
            }
        }
    }

    private void layObjects(int[] blocks, int n, int from, int data) {
        int next = 0;
        for (int i = 0; i < n; i++) {
            int parts = data == 0 ? 0 : dense || chance(60) ? 2 : pick(3);
            int[] named = new int[parts];
            for (int k = 0; k < parts; k++) {
                named[k] = chance(95) ? blocks[from + next++ % data] : pick(64);
            }
            int size = 256 * parts - (parts == 0 || chance(30) ? 0 : pick(256));
            long number = chance(50) ? pick(9) : random.nextLong();
            byte[] object = object(anyProduct(), anyName(), size, number, named);
            if (chance(1)) {
                int k = new int[] {0, 1, 18, 19, 28, 61, 10, 17, 94, 255, pick(256)}[pick(11)];
                object[k] ^= (byte) (1 << pick(8));
            }
            lay(blocks[i], object);
        }
    }

    /** Most OBJECTS lie where they are looked for; some NODES have none. */
    private void layNodes(int[] blocks, int objects, int nodes) {
        int shape = pick(3);
        for (int n = 0; n < nodes; n++) {
            byte[] node = emptyNode();
            int filled = 0;
            for (int i = 0; i < objects && filled < 7; i++) {
                byte[] o = model.disk[blocks[i]];
                String name = new String(o, 2, Math.max(0, Math.min(16, o[1])), java.nio.charset.StandardCharsets.ISO_8859_1);
                boolean here = way(o[0] & 7, name) == n;
                if (shape == 0 ? here : shape == 1 ? here && n < 2 : here || chance(15)) {
                    name(node, 33 * (filled + (filled < 4 && chance(20) ? 2 : 0)), blocks[i]);
                    filled++;
                }
            }
            spoilNode(node);
            lay(blocks[objects + n], node);
        }
    }

    private void spoilNode(byte[] node) {
        if (chance(2)) {
            int k = new int[] {33 * pick(7), 33 * pick(7) + 1, 33 * pick(7) + 32, 231, 255, pick(256)}[pick(6)];
            node[k] ^= (byte) (1 << pick(8));
        }
    }

    /** The ROOT's block is spoilt behind the SEAL. */
    private void layOverAgain(int block) throws ReflectiveOperationException {
        setRoot(block);
        byte[] other = model.disk[block].clone();
        other[pick(256)] ^= (byte) (1 + pick(255));
        lay(block, other);
    }

    private void act() {
        String name = anyName();
        int kind = pick(20);
        if (kind < 3) {
            call(10, pick(8), 0, 0);
        } else if (kind < 6) {
            invoke(GET, word(name), name.length());
        } else if (kind < 8) {
            invoke(HAS, word(name), name.length());
        } else if (kind < 10) {
            invoke(LIST, 0, 0, chance(90) ? pick(8) : -1, 0);
        } else if (kind < 13) {
            invoke(DELETE, word(name), name.length());
        } else if (kind < 15) {
            invoke(PUT, word(name), name.length(), anySize(), random.nextInt());
        } else {
            int[][] notes = new int[1 + pick(4)][];
            boolean deletes = chance(50);
            for (int i = 0; i < notes.length; i++) {
                notes[i] = note(anyName(), deletes || chance(50) ? DELETES : anySize());
            }
            deal(notes);
        }
        if (chance(10)) {
            compareDisks();
        }
    }

    private int anySize() {
        return new int[] {0, 1, 255, 256, 257, 512}[pick(6)];
    }
}
