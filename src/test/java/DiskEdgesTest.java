import java.util.ArrayList;
import java.util.Arrays;
import java.util.List;

/** Promise 10, Part IV: the sentences that name an edge of objects and transactions, one test each. */
public final class DiskEdgesTest {
    private static final int[] BEGIN = DiskRig.BEGIN;
    private static final int[] COMMIT = DiskRig.COMMIT;
    private static final int[] UNDO = DiskRig.UNDO;

    private DiskEdgesTest() {
    }

    public static void main(String[] args) {
        nodesAndRoot();
        objectOfAnySize();
        numberOfManyBytes();
        dataBehindTheLast();
        productsNumber();
        placeInTheRoot();
        namesOfAnyLength();
        notWhole();
        replayed();
        firstEmptyPlace();
        noEmptyPlace();
        lookedAtBehindThePlace();
        corruptOnTheWayToAPlace();
        tooFewBlocks();
        tooFewForADelete();
        corruptAheadOfFull();
        lowestFirst();
        freeThen();
        nodeInBlockZero();
        numberIsCountAndOne();
        getOfNone();
        getAtMost();
        hasOfNone();
        deleteOfNone();
        deleteLastOfANode();
        deleteLastOfAll();
        listWithoutSign();
        beginTwice();
        beginWithoutTheRight();
        commitAndUndoOfNone();
        atMostFour();
        ofOneNameTheLatest();
        deleteByWhatIsNoted();
        longNamesNoted();
        corruptInATransaction();
        toldByWhatIsNoted();
        listTellsTheTree();
        endsByUndo();
        endsWithTheRun();
        endsWithAFault();
        endsWithTheSession();
        anAskedOnes();
        notTheAskers();
        endsByACommitThatFails();
        nothingToDelete();
        noPlaceChanges();
        writtenInOrder();
        aPlaceInTheMidst();
        commitWithoutPlace();
        commitWithTooFewBlocks();
        commitOfACorruptTree();
        emptyNodeIsNone();
        cutsOfACommit();
        Check.finish();
    }

    private static int[] put(int name, int n) {
        return DiskRig.put(name, n);
    }

    private static int[] get(int name, int n) {
        return DiskRig.get(name, n);
    }

    private static int[] delete(int name) {
        return DiskRig.delete(name);
    }

    private static int[] has(int name) {
        return DiskRig.has(name);
    }

    private static int[] list(int i) {
        return DiskRig.list(i);
    }

    private static void due(String what, String got, String want) {
        Check.due(what, got, want);
    }

    private static int block(DiskRig d, int block, int k) {
        return d.rig.machine.disk(block, k, 0);
    }

    private static byte[] content(int n) {
        byte[] out = new byte[n];
        for (int i = 0; i < n; i++) {
            out[i] = (byte) i;
        }
        return out;
    }

    /** Objects 0, 7 and 14 in NODE 0 and 1 in NODE 1, one byte each: DATA and OBJECT by turns, NODES in 8 and 9, ROOT in 10. */
    private static DiskRig four() {
        DiskRig d = new DiskRig(0);
        due("a tree of four", d.run(0, BEGIN, put(0, 1), put(7, 1), put(14, 1), put(1, 1), COMMIT), "0 0 0 0 0 0");
        due("its KEPT", d.rig.kept(0), "4 4 11");
        return d;
    }

    // ---- the tree

    /** "NODE: .. a block's number (255: none) and the DIGEST of that whole BLOCK (0s for none), the rest 0". */
    private static void nodesAndRoot() {
        DiskRig d = four();
        int[][] named = {{8, 1, 3, 5}, {9, 7}, {10, 8, 9}};
        for (int[] n : named) {
            byte[] due = new byte[256];
            for (int i = 0; i < 7; i++) {
                due[33 * i] = (byte) 255;
            }
            for (int i = 1; i < n.length; i++) {
                due[33 * (i - 1)] = (byte) n[i];
                System.arraycopy(Model.sha(d.rig.block(n[i])), 0, due, 33 * (i - 1) + 1, 32);
            }
            Check.due("block " + n[0], d.rig.block(n[0]), due);
        }
    }

    /** "18, 19 how many bytes it has (the higher one first) ..; for each DATA block (as many as are needed .. at most two)". */
    private static void objectOfAnySize() {
        for (int n : new int[] {0, 1, 255, 256, 257, 511, 512}) {
            DiskRig d = new DiskRig(0);
            due("PUT of " + n, d.run(0, put(5, n)), "0");
            int parts = n == 0 ? 0 : n <= 256 ? 1 : 2;
            due("KEPT with " + n, d.rig.kept(0), "1 1 " + (3 + parts));
            byte[] due = new byte[256];
            due[1] = 1;
            due[2] = 5;
            due[18] = (byte) (n >> 8);
            due[19] = (byte) n;
            due[27] = 1;
            for (int k = 0; k < parts; k++) {
                due[28 + 33 * k] = (byte) k;
                System.arraycopy(Model.sha(d.rig.block(k)), 0, due, 29 + 33 * k, 32);
            }
            Check.due("the OBJECT of " + n, d.rig.block(parts), due);
            due("HAS and GET of " + n, d.run(0, has(5), get(5, 512)), "0:" + n + " 0:" + n);
        }
    }

    /** "20 .. 27 its NUMBER (the highest first)": 255, 256 and 257. */
    private static void numberOfManyBytes() {
        DiskRig d = new DiskRig(0);
        for (int i = 0; i < 4; i++) {
            d.run(0, DiskRig.puts(5, 0, i < 3 ? 64 : 62, 0));
        }
        Check.due("COUNT", d.rig.count(), 254);
        for (int count = 255; count <= 257; count++) {
            due("PUT", d.run(0, put(5, 1)), "0");
            int data = 0;
            while (block(d, data + 1, 1) != 1 || block(d, data + 1, 26) != count >> 8 || block(d, data + 1, 27) != (count & 255)) {
                data++;
            }
            byte[] number = Arrays.copyOfRange(d.rig.block(data + 1), 20, 28);
            Check.due("NUMBER", number, new byte[] {0, 0, 0, 0, 0, 0, (byte) (count >> 8), (byte) count});
            Check.due("its DATA", d.rig.block(data), Model.chacha(new byte[32], Arrays.copyOf(number, 12), new byte[256]));
            due("GET", d.run(0, get(5, 512)), "0:1");
        }
    }

    /** "DATA: the bytes (0s behind the last), SECRET, nonce: the NUMBER .., and which one it is (0, 1)". */
    private static void dataBehindTheLast() {
        for (int n : new int[] {1, 255, 256, 257, 511, 512}) {
            DiskRig d = new DiskRig(0);
            // a longer one ahead of it, so that nothing of it may be left
            d.run(0, put(5, 512), delete(5), put(5, n));
            byte[] all = Arrays.copyOf(content(n), 512);
            for (int k = 0; 256 * k < n; k++) {
                byte[] nonce = {0, 0, 0, 0, 0, 0, 0, 3, 0, 0, 0, (byte) k};
                Check.due("DATA " + k + " of " + n, d.rig.block(k),
                        Model.chacha(new byte[32], nonce, Arrays.copyOfRange(all, 256 * k, 256 * k + 256)));
            }
        }
    }

    /** "where it says ENTRY in this Part (also in OBJECT's byte 0, KEPT, LIST) its PRODUCT's number is meant". */
    private static void productsNumber() {
        DiskRig d = new DiskRig(7, 3);
        due("PUT of applet 0", d.run(0, put(5, 0), put(6, 0)), "0 0");
        due("PUT of applet 1", d.run(1, put(5, 0)), "0");
        due("KEPT of 7", d.rig.kept(7).substring(0, 4), "2 3 ");
        due("KEPT of 3", d.rig.kept(3).substring(0, 4), "1 3 ");
        due("KEPT of 0", d.rig.kept(0).substring(0, 4), "0 3 ");
        due("LIST of applet 0", d.run(0, list(0), list(1), list(2)), "0:1 0:1 7:0");
        due("LIST of applet 1", d.run(1, list(0), list(1)), "0:1 7:0");
        Check.due("byte 0", block(d, 0, 0), 7);
    }

    /** "in the place (e + sum of N's bytes) mod 7 of the ROOT": bytes are without sign. */
    private static void placeInTheRoot() {
        for (int product = 0; product < 8; product++) {
            for (int name : new int[] {0, 1, 6, 7, 127, 128, 129, 199, 240, 255}) {
                DiskRig d = new DiskRig(product);
                d.run(0, put(name, 0));
                for (int i = 0; i < 7; i++) {
                    Check.due("place " + i + " for " + name + " of " + product, block(d, 2, 33 * i), i == (product + name) % 7 ? 1 : 255);
                }
            }
        }
    }

    /** "the m bytes (1 .. 16)": a name and a longer one that begins with it are two. */
    private static void namesOfAnyLength() {
        Code c = new Code();
        for (int m = 1; m <= 16; m++) {
            c.sys(Code.PUT, 0, m, 0, m).op(Code.DROP);
        }
        Code has = new Code().sys(Code.FIRST, 0).op(Code.DROP).push(0).sys(Code.FIRST, 0).sys(Code.HAS).op(Code.SWAP).push(1000)
                .op(Code.MUL, Code.ADD, Code.END);
        Rig rig = Rig.with(1, c.end(), has);
        Check.due("sixteen names of 0s", rig.invoke(0, 0), "ends 0");
        for (int m = 1; m <= 16; m++) {
            rig.tell(1, m, 0);
            // seven find their places, the others come to a NODE that is full: all of these names have the sum 0
            Check.due("the name of " + m + " bytes 0", rig.invoke(0, 1), m <= 7 ? "ends " + m : "ends 7000");
        }
        Check.due("KEPT", rig.kept(0).substring(0, 4), "7 7 ");
    }

    // ---- what is read

    /** "What is read on the way to something and is not WHOLE: CODE 6, nothing is changed." */
    private static void notWhole() {
        int[][] what = {has(0), has(7), has(14), has(21), has(1), has(8), has(2), get(0, 9), get(7, 9), get(14, 9), get(1, 9), list(0),
            list(1), list(2), list(3), list(4), put(0, 1), put(21, 1), put(1, 1), put(2, 1), delete(0), delete(21), delete(1), delete(2)};
        String whole = "0:1 0:1 0:1 7:0 0:1 7:0 7:0 0:1 0:1 0:1 0:1 0:1 0:1 0:1 0:1 7:0";
        String[] rows = {
            // DATA of 0, 7, 14, 1
            "0:1 0:1 0:1 7:0 0:1 7:0 7:0 6:0 0:1 0:1 0:1 0:1 0:1 0:1 0:1 7:0 6 6 6 6 6 7 6 7",
            "6:0 6:0 6:0 6:0 0:1 7:0 7:0 6:0 6:0 6:0 0:1 6:0 6:0 6:0 6:0 6:0 6 6 6 6 6 6 6 7",
            "0:1 0:1 0:1 7:0 0:1 7:0 7:0 0:1 6:0 0:1 0:1 0:1 0:1 0:1 0:1 7:0 6 6 6 6 6 7 6 7",
            "0:1 6:0 6:0 6:0 0:1 7:0 7:0 0:1 6:0 6:0 0:1 0:1 6:0 6:0 6:0 6:0 6 6 6 6 6 6 6 7",
            "0:1 0:1 0:1 7:0 0:1 7:0 7:0 0:1 0:1 6:0 0:1 0:1 0:1 0:1 0:1 7:0 6 6 6 6 6 7 6 7",
            "0:1 0:1 6:0 6:0 0:1 7:0 7:0 0:1 0:1 6:0 0:1 0:1 0:1 6:0 6:0 6:0 6 6 6 6 6 6 6 7",
            "0:1 0:1 0:1 7:0 0:1 7:0 7:0 0:1 0:1 0:1 6:0 0:1 0:1 0:1 0:1 7:0 6 6 6 6 6 7 6 7",
            "0:1 0:1 0:1 7:0 6:0 6:0 7:0 0:1 0:1 0:1 6:0 0:1 0:1 0:1 6:0 6:0 6 6 6 6 6 7 6 7",
            // the NODES and the ROOT
            "6:0 6:0 6:0 6:0 0:1 7:0 7:0 6:0 6:0 6:0 0:1 6:0 6:0 6:0 6:0 6:0 6 6 6 6 6 6 6 7",
            "0:1 0:1 0:1 7:0 6:0 6:0 7:0 0:1 0:1 0:1 6:0 0:1 0:1 0:1 6:0 6:0 6 6 6 6 6 7 6 7",
            "6:0 6:0 6:0 6:0 6:0 6:0 6:0 6:0 6:0 6:0 6:0 6:0 6:0 6:0 6:0 6:0 6 6 6 6 6 6 6 6"
        };
        DiskRig d = four();
        for (int spoilt = 0; spoilt < 11; spoilt++) {
            byte[][] before = disk(d);
            d.rig.machine.disk(spoilt, 77, 4);
            due("with block " + spoilt + " edited", d.run(0, what), rows[spoilt]);
            due("KEPT then", d.rig.kept(0), "code 6");
            d.rig.machine.disk(spoilt, 77, 4);
            Check.due("nothing is changed", Arrays.deepEquals(before, disk(d)), true);
            Check.due("COUNT", d.rig.count(), 1);
        }
        due("when all is WHOLE again", d.run(0, Arrays.copyOf(what, 16)), whole);
    }

    /** The same behind replay(): each BLOCK of the tree as it was before is not WHOLE. */
    private static void replayed() {
        for (int block = 0; block < 11; block++) {
            DiskRig d = four();
            byte[] now = d.rig.block(block);
            d.rig.machine.replay(block);
            due("KEPT with block " + block + " replayed", d.rig.kept(0), "code 6");
            due("PUT then", d.run(0, put(0, 1)), "6");
            for (int k = 0; k < 256; k++) {
                d.rig.machine.disk(block, k, now[k]);
            }
            due("KEPT when it is as it was", d.rig.kept(0), "4 4 11");
        }
        DiskRig same = new DiskRig(0);
        same.run(0, put(5, 1), put(5, 1), put(5, 1));
        due("KEPT", same.rig.kept(0), "1 1 4");
        // the third PUT wrote 0 .. 3 over the first one's
        for (int block = 0; block < 4; block++) {
            byte[] now = same.rig.block(block);
            same.rig.machine.replay(block);
            due("KEPT with block " + block + " of the first PUT", same.rig.kept(0), "code 6");
            byte[] then = same.rig.block(block);
            for (int k = 0; k < 256; k++) {
                same.rig.machine.disk(block, k, then[k] ^ now[k]);
            }
            due("KEPT when it is as it was", same.rig.kept(0), "1 1 4");
        }
        for (int block = 4; block < 8; block++) {
            same.rig.machine.replay(block);
            due("KEPT with a free block replayed", same.rig.kept(0), "1 1 4");
        }
    }

    private static byte[][] disk(DiskRig d) {
        byte[][] out = new byte[64][];
        for (int i = 0; i < 64; i++) {
            out[i] = d.rig.block(i);
        }
        return out;
    }

    // ---- PUT

    /** "If it is not there: the NODE's first place that is empty". */
    private static void firstEmptyPlace() {
        DiskRig d = new DiskRig(0);
        due("three of one NODE", d.run(0, put(0, 0), put(7, 0), put(14, 0)), "0 0 0");
        due("the first two go, then one comes", d.run(0, delete(0), delete(7), put(21, 3)), "0 0 0");
        due("it is ahead of the third", d.run(0, list(0), has(21), list(1), list(2)), "0:1 0:3 0:1 7:0");
        due("the second place is empty still", d.run(0, put(28, 5), put(35, 6), list(2), list(3)), "0 0 0:1 0:1");
        // the latest NODE names 21, 28, 14 and 35
        List<Integer> names = new ArrayList<>();
        int node = d.rig.machine.disk(root(d), 0, 0);
        for (int i = 0; i < 7; i++) {
            int object = block(d, node, 33 * i);
            names.add(object == 255 ? -1 : block(d, object, 2));
        }
        due("the NODE's places", names.toString(), "[21, 28, 14, 35, -1, -1, -1]");
    }

    /** The latest ROOT: the block whose edit makes HAS of what has no NODE 6. */
    private static int root(DiskRig d) {
        for (int block = 0; block < 64; block++) {
            d.rig.machine.disk(block, 255, 1);
            String answer = d.run(0, has(1));
            d.rig.machine.disk(block, 255, 1);
            if (answer.equals("6:0")) {
                return block;
            }
        }
        return -1;
    }

    /** "(none, 4)": a NODE has seven places. */
    private static void noEmptyPlace() {
        DiskRig d = new DiskRig(0);
        due("seven", d.run(0, DiskRig.puts(0, 7, 7, 0)), "0 0 0 0 0 0 0");
        due("an eighth", d.run(0, put(49, 0), has(49)), "4 7:0");
        Check.due("COUNT", d.rig.count(), 7);
        due("one that is there", d.run(0, put(42, 1), has(42)), "0 0:1");
        due("one of another NODE", d.run(0, put(50, 0)), "0");
        due("when one has gone", d.run(0, delete(21), put(49, 0), put(56, 0)), "0 0 4");
    }

    /** "Then the whole tree is looked at .. (as KEPT: 6)": behind the look for a place. */
    private static void lookedAtBehindThePlace() {
        DiskRig d = new DiskRig(0);
        d.run(0, put(1, 1));
        d.run(0, DiskRig.puts(0, 7, 7, 0));
        // the DATA of 1 is in block 0
        d.rig.machine.disk(0, 0, 1);
        due("a full NODE", d.run(0, put(49, 0)), "4");
        due("one that has a place", d.run(0, put(42, 0), put(8, 0), put(2, 0)), "6 6 6");
        due("KEPT", d.rig.kept(0), "code 6");
    }

    /** The OBJECTS of a NODE are read ahead of the look for a place: 6, though it is full. */
    private static void corruptOnTheWayToAPlace() {
        DiskRig d = new DiskRig(0);
        due("seven", d.run(0, BEGIN, put(0, 0), put(7, 0), put(14, 0), put(21, 0), COMMIT, BEGIN, put(28, 0), put(35, 0), put(42, 0), COMMIT),
                "0 0 0 0 0 0 0 0 0 0 0");
        // the first OBJECTS are in blocks 0 .. 3
        d.rig.machine.disk(3, 9, 1);
        due("an eighth with an OBJECT edited", d.run(0, put(49, 0), put(0, 0), put(42, 0), delete(42), delete(49)), "6 6 6 6 6");
        d.rig.machine.disk(3, 9, 1);
        due("an eighth", d.run(0, put(49, 0)), "4");
    }

    /** A tree that leaves so many blocks free, 1 .. 5: of 0, 7, 14 .. in NODE 0, and so on; 6 is alone in NODE 6. */
    private static DiskRig leaving(int free) {
        DiskRig d = new DiskRig(0);
        int[] sixes = new int[18];
        for (int i = 0; i < 18; i++) {
            sixes[i] = 7 * (i / 6) + i % 6;
        }
        // six NODES and the ROOT; each object of 512 bytes takes three
        int objects = free == 1 ? 18 : 17;
        List<int[]> puts = new ArrayList<>();
        for (int i = 0; i < objects; i++) {
            puts.add(put(sixes[i], 512));
        }
        due("so many PUTs", d.run(0, puts.toArray(new int[0][])).replace("0", "").trim(), "");
        int used = 7 + 3 * objects;
        // then 6, in a NODE of its own, with as many DATA as leave the rest
        int parts = 64 - free - used - 2;
        due("PUT of 6", d.run(0, put(6, parts == 0 ? 0 : 256 * parts)), "0");
        due("KEPT", d.rig.kept(0), (objects + 1) + " " + (objects + 1) + " " + (64 - free));
        return d;
    }

    /** "needed are DATA, OBJECT, NODE, ROOT (4, if there are fewer)". */
    private static void tooFewBlocks() {
        for (int free : new int[] {1, 2, 3, 4}) {
            for (int n : new int[] {0, 1, 256, 257, 512}) {
                int needed = 3 + (n + 255) / 256;
                for (int name : new int[] {0, 13, 21}) {
                    DiskRig d = leaving(free);
                    due("PUT of " + n + " with " + free + " free", d.run(0, put(name, n)), needed > free ? "4" : "0");
                }
            }
        }
    }

    /** "DELETE: .. as PUT, without DATA and OBJECT: the NODE .., or, if it has none then, no NODE: the ROOT". */
    private static void tooFewForADelete() {
        DiskRig one = leaving(1);
        due("DELETE with 1 free needs NODE and ROOT", one.run(0, delete(0)), "4");
        Check.due("COUNT", one.rig.count(), 19);
        due("DELETE of a NODE's last with 1 free needs the ROOT alone", one.run(0, delete(6)), "0");
        DiskRig two = leaving(2);
        due("DELETE with 2 free", two.run(0, delete(0)), "0");
        DiskRig noted = leaving(1);
        due("COMMIT of a DELETE with 1 free", noted.run(0, BEGIN, delete(0), COMMIT, BEGIN, delete(6), COMMIT), "0 0 4 0 0 0");
        DiskRig both = leaving(2);
        due("COMMIT of two DELETEs, of two NODES, with 2 free", both.run(0, BEGIN, delete(0), delete(1), COMMIT), "0 0 0 4");
        due("COMMIT of two DELETEs of one NODE with 2 free", both.run(0, BEGIN, delete(0), delete(7), COMMIT), "0 0 0 0");
    }

    /** 6 comes ahead of too few BLOCKS. */
    private static void corruptAheadOfFull() {
        DiskRig d = leaving(1);
        d.rig.machine.disk(0, 0, 1);
        due("PUT and DELETE with DATA edited", d.run(0, put(1, 512), delete(1), has(1)), "6 6 0:512");
        due("COMMIT", d.run(0, BEGIN, put(1, 512), COMMIT), "0 0 6");
    }

    /** "free BLOCKS are all others, the lowest first"; "each to the next free BLOCK, in this order". */
    private static void lowestFirst() {
        DiskRig d = new DiskRig(0);
        d.run(0, put(0, 1), put(1, 1));
        // 0: DATA OBJECT NODE (ROOT, free); 1: DATA OBJECT NODE ROOT in 4 .. 7
        byte[][] before = disk(d);
        due("PUT of 2", d.run(0, put(2, 257)), "0");
        due("it takes 3 and 8 .. 11", changed(before, d), "[3, 8, 9, 10, 11]");
        Check.due("DATA 0", block(d, 9, 28), 3);
        Check.due("DATA 1", block(d, 9, 61), 8);
        before = disk(d);
        due("DELETE of 0", d.run(0, delete(0)), "0");
        due("the ROOT alone", changed(before, d), "[7]");
        before = disk(d);
        due("PUT of 8", d.run(0, put(8, 1)), "0");
        due("the next ones", changed(before, d), "[0, 1, 2, 11]");
        Check.due("DATA", block(d, 1, 28), 0);
        due("KEPT", d.rig.kept(0), "3 3 10");
    }

    private static String changed(byte[][] before, DiskRig d) {
        List<Integer> out = new ArrayList<>();
        for (int i = 0; i < 64; i++) {
            if (!Arrays.equals(before[i], d.rig.block(i))) {
                out.add(i);
            }
        }
        return out.toString();
    }

    /** "(The BLOCKS that were in their place are free then.)": of the PUT of what is there, too. */
    private static void freeThen() {
        DiskRig d = new DiskRig(0);
        for (int i = 0; i < 40; i++) {
            due("PUT " + i, d.run(0, put(5, 512)), "0");
        }
        due("KEPT", d.rig.kept(0), "1 1 5");
        int highest = 0;
        for (int i = 0; i < 64; i++) {
            highest = Arrays.equals(d.rig.block(i), new byte[256]) ? highest : i;
        }
        Check.due("the highest block that was ever written", highest, 9);
    }

    /** A block's number may be 0: a NODE there is one, and stays when another one changes. */
    private static void nodeInBlockZero() {
        DiskRig d = new DiskRig(0);
        due("the way to it", d.run(0, put(0, 0), put(7, 0), delete(0), put(14, 0), put(14, 0), delete(7)), "0 0 0 0 0 0");
        Check.due("the NODE names 14 alone", block(d, 0, 0) == 1 && block(d, 0, 33) == 255, true);
        byte[][] before = disk(d);
        due("PUT in another NODE", d.run(0, put(1, 0)), "0");
        due("OBJECT, NODE and ROOT", changed(before, d).split(",").length + "", "3");
        Check.due("the NODE stays", d.rig.block(0), before[0]);
        due("KEPT", d.rig.kept(0), "2 2 5");
        due("COMMIT in another NODE", d.run(0, BEGIN, put(2, 0), COMMIT, has(14), has(1), has(2)), "0 0 0 0:0 0:0 0:0");
        Check.due("the NODE stays", d.rig.block(0), before[0]);
        due("DELETE of 14", d.run(0, delete(14), has(14), has(1), has(2)), "0 7:0 0:0 0:0");
        due("KEPT", d.rig.kept(0), "2 2 5");
    }

    /** "NUMBER is COUNT + 1"; "the CELL: COUNT one more". */
    private static void numberIsCountAndOne() {
        DiskRig d = new DiskRig(0);
        due("PUT, PUT, DELETE, PUT", d.run(0, put(5, 0), put(6, 0), delete(5), put(8, 0)), "0 0 0 0");
        Check.due("COUNT", d.rig.count(), 4);
        int found = -1;
        for (int i = 0; i < 64; i++) {
            found = block(d, i, 1) == 1 && block(d, i, 2) == 8 ? i : found;
        }
        Check.due("NUMBER", block(d, found, 27), 4);
        due("a PUT that is refused", d.run(0, DiskRig.puts(0, 7, 8, 0)), "0 0 0 0 0 0 0 4");
        Check.due("COUNT", d.rig.count(), 11);
    }

    // ---- GET, HAS, DELETE, LIST

    /** "GET: way down; not found: 7": r is 0, and no byte comes. */
    private static void getOfNone() {
        due("without a ROOT", new DiskRig(0).run(0, get(5, 512)), "7:0");
        due("without its NODE, and in a NODE", four().run(0, get(2, 9), get(21, 9)), "7:0 7:0");
    }

    /** "its bytes come from a on, at most n (0 .. 512 ..); r is how many it has". */
    private static void getAtMost() {
        for (int size : new int[] {0, 1, 256, 300, 512}) {
            for (int n : new int[] {0, 1, 255, 256, 257, 512}) {
                int come = Math.min(size, n);
                Code put = new Code().sys(Code.MAKE, 0, 256).sys(Code.MAKE, 256, 256).sys(Code.PUT, 0, size, 1000, 1).op(Code.DROP);
                put.sys(Code.HASH, 0, come, 900).sys(Code.MOVE, 512, 256, 0).sys(Code.MOVE, 512, 256, 256);
                put.sys(Code.GET, 0, n, 1000, 1).op(Code.SWAP, Code.DROP);
                // what has come has the same digest, and behind it there are 0s still
                put.sys(Code.HASH, 0, come, 940).push(900).op(Code.LOADW).push(940).op(Code.LOADW, Code.SAME).push(1000)
                        .op(Code.MUL, Code.ADD);
                put.sys(Code.HASH, come, 512 - come, 940).push(940).op(Code.LOADW).push(0).sys(Code.SETFIRST).end();
                Rig rig = Rig.with(4, put);
                rig.tell(2, 0, 0);
                Check.due("GET of at most " + n + " of " + size, rig.invoke(0, 0), "ends " + (1000 + size));
                byte[] rest = Model.sha(new byte[512 - come]);
                Check.due("the bytes behind stay", rig.word(Rig.TOLD + 4),
                        rest[0] & 255 | (rest[1] & 255) << 8 | (rest[2] & 255) << 16 | rest[3] << 24);
            }
        }
    }

    /** "HAS: way down; 7 and 0, or 0 and how many bytes it has". */
    private static void hasOfNone() {
        due("without a ROOT", new DiskRig(0).run(0, has(5)), "7:0");
        due("of nothing", new DiskRig(0).run(0, put(5, 0), has(5), has(12), has(6)), "0 0:0 7:0 7:0");
    }

    /** "DELETE: way down, 7": nothing is written. */
    private static void deleteOfNone() {
        DiskRig d = new DiskRig(0);
        d.rig.machine.power(0);
        due("without a ROOT", d.run(0, delete(5)), "7");
        DiskRig tree = four();
        tree.rig.machine.power(0);
        due("without its NODE, and in a NODE", tree.run(0, delete(2), delete(21)), "7 7");
        Check.due("COUNT", tree.rig.count(), 1);
    }

    /** "or, if it has none then, no NODE: the ROOT with its place empty". */
    private static void deleteLastOfANode() {
        DiskRig d = four();
        byte[][] before = disk(d);
        due("DELETE of 1", d.run(0, delete(1)), "0");
        due("the ROOT alone is written", changed(before, d), "[11]");
        Check.due("its place 1", block(d, 11, 33), 255);
        Check.due("its DIGEST", Arrays.copyOfRange(d.rig.block(11), 34, 66), new byte[32]);
        Check.due("its place 0", block(d, 11, 0), 8);
        due("KEPT", d.rig.kept(0), "3 3 8");
        due("DELETE of 7 leaves its NODE", d.run(0, delete(7), has(0), has(7), has(14)), "0 0:1 7:0 0:1");
        due("KEPT", d.rig.kept(0), "2 2 6");
    }

    /** "or, if it has none then, the CELL alone with no ROOT (255, SEAL 0s)". */
    private static void deleteLastOfAll() {
        DiskRig d = new DiskRig(0);
        d.run(0, put(5, 1));
        byte[][] before = disk(d);
        d.rig.machine.power(1);
        due("DELETE with power for the CELL", d.run(0, delete(5)), "0");
        due("no block is written", changed(before, d), "[]");
        Check.due("COUNT", d.rig.count(), 2);
        due("KEPT", d.rig.kept(0), "0 0 0");
        d.rig.machine.disk(3, 0, 1);
        due("the old ROOT is of no matter", d.run(0, has(5), list(0)), "7:0 7:0");
        d.rig.machine.power(-1);
        due("PUT again", d.run(0, put(5, 1), has(5)), "0 0:1");
        DiskRig cut = new DiskRig(0);
        cut.run(0, put(5, 1));
        cut.rig.machine.power(0);
        due("DELETE without power", cut.run(0, delete(5)), "code -1");
        cut.start();
        due("it is there still", cut.run(0, has(5)), "0:1");
    }

    /** "LIST i d -- c m: the object number i (0 first, a word without sign)"; "7, m 0, if there are not so many". */
    private static void listWithoutSign() {
        DiskRig d = four();
        due("LIST", d.run(0, list(0), list(3), list(4), list(65535)), "0:1 0:1 7:0 7:0");
        for (int i : new int[] {-1, Integer.MIN_VALUE, Integer.MAX_VALUE, Integer.MIN_VALUE + 1}) {
            Code c = new Code().sys(Code.PUT, 0, 0, 0, 1).op(Code.DROP).word(100, 5).sys(Code.LIST, i, 100).op(Code.SWAP).push(1000)
                    .op(Code.MUL, Code.ADD).push(100).op(Code.LOADW, Code.ADD, Code.END);
            Check.due("LIST " + i, Rig.outcome(c), "ends 7005");
        }
    }

    // ---- transactions

    /** "BEGIN -- c: a transaction begins: 0; 8 if this session has one". */
    private static void beginTwice() {
        due("BEGIN twice", new DiskRig(0).run(0, BEGIN, BEGIN, UNDO, BEGIN, COMMIT, BEGIN), "0 8 0 0 0 0");
        DiskRig d = new DiskRig(0, 1);
        due("an asked one's BEGIN", d.both(0, new int[][] {BEGIN, DiskRig.ask(1), UNDO}, new int[][] {BEGIN, UNDO, COMMIT}), "0 0:0 0 | 8 7 7");
        due("the asked one's own", d.both(0, new int[][] {DiskRig.ask(1), BEGIN}, new int[][] {BEGIN}), "0:0 0 | 0");
    }

    /** "0; 8 if this session has one; 2 without the RIGHT 1": in that order. */
    private static void beginWithoutTheRight() {
        for (int busy = 0; busy < 2; busy++) {
            Code asks = new Code();
            if (busy == 1) {
                asks.sys(Code.BEGIN).op(Code.DROP);
            }
            byte[] one = Code.image(1, asks.sys(Code.ASK, 1, 0).op(Code.END));
            byte[] two = Code.image(1, new Code().sys(Code.BEGIN).op(Code.END));
            Rig rig = new Rig();
            rig.burn(one, 7);
            rig.burn(two, 6);
            rig.start();
            rig.bringIn(one);
            rig.bringIn(two);
            rig.open(0);
            Check.due("BEGIN without the RIGHT 1, busy " + busy, rig.invoke(0, 0), busy == 1 ? "ends 8" : "ends 2");
        }
    }

    /** "COMMIT ..; 7 if there is none of this APPLET's"; "UNDO -- c: .. 0, 7". */
    private static void commitAndUndoOfNone() {
        due("COMMIT and UNDO", new DiskRig(0).run(0, COMMIT, UNDO, BEGIN, COMMIT, COMMIT, UNDO, BEGIN, UNDO, UNDO, COMMIT),
                "7 7 0 0 7 7 0 0 7 7");
    }

    /** "PUT and DELETE are noted, at most 4 (.. 4, if there would be more)". */
    private static void atMostFour() {
        DiskRig d = four();
        due("five PUTs", d.run(0, BEGIN, put(20, 1), put(21, 1), put(22, 1), put(23, 1), put(24, 1), delete(0), delete(2), put(23, 2),
                delete(20), put(20, 3), COMMIT, has(24), has(23), has(20), has(0)), "0 0 0 0 0 4 4 7 0 0 0 0 7:0 0:2 0:3 0:1");
        due("four DELETEs and more", d.run(0, BEGIN, delete(0), delete(7), delete(14), delete(1), delete(20), put(50, 1), delete(0), UNDO),
                "0 0 0 0 0 4 4 7 0");
    }

    /** "(of one name the latest counts, where it was noted first ..)". */
    private static void ofOneNameTheLatest() {
        DiskRig d = new DiskRig(0);
        due("notes", d.run(0, BEGIN, put(3, 0), put(4, 0), put(3, 1), delete(4), put(5, 0), put(4, 2), COMMIT), "0 0 0 0 0 0 0 0");
        // 3 with its DATA, 4 with its DATA, 5
        int[] names = {-1, 3, -1, 4, 5};
        for (int i = 0; i < 5; i++) {
            if (names[i] >= 0) {
                Check.due("block " + i, block(d, i, 2), names[i]);
            }
        }
        due("what there is", d.run(0, has(3), has(4), has(5)), "0:1 0:2 0:0");
    }

    /** "(DELETE 7, if it is not there by what is noted and the tree, ahead of that 4; 6)". */
    private static void deleteByWhatIsNoted() {
        DiskRig d = four();
        due("DELETE", d.run(0, BEGIN, delete(2), delete(0), delete(0), put(0, 3), delete(0), delete(0), put(2, 1), delete(2), delete(2),
                COMMIT, has(0), has(2)), "0 7 0 7 0 0 7 0 0 7 0 7:0 7:0");
        due("KEPT", d.rig.kept(0).substring(0, 4), "3 3 ");
    }

    /** Names of sixteen bytes that differ in the first or the last one, or in their length, are noted apart. */
    private static void longNamesNoted() {
        Code c = new Code();
        for (int i = 0; i < 16; i += 4) {
            c.word(i, 0x41424344).word(16 + i, 0x41424344).word(32 + i, 0x41424344);
        }
        c.push(1, 16).op(Code.STOREB).push(2, 47).op(Code.STOREB).sys(Code.BEGIN).op(Code.DROP);
        int[][] names = {{0, 16}, {16, 16}, {32, 16}, {0, 15}};
        for (int i = 0; i < 4; i++) {
            c.sys(Code.PUT, 100, i + 1, names[i][0], names[i][1]).op(Code.DROP);
        }
        for (int[] n : names) {
            c.sys(Code.HAS, n[0], n[1]).op(Code.SWAP, Code.DROP);
        }
        c.push(10).op(Code.MUL, Code.ADD).push(10).op(Code.MUL, Code.ADD).push(10).op(Code.MUL, Code.ADD);
        c.sys(Code.COMMIT).push(10000).op(Code.MUL, Code.ADD, Code.END);
        Rig rig = Rig.with(1, c);
        Check.due("each has its own size", rig.invoke(0, 0), "ends 4321");
        Check.due("KEPT", rig.kept(0).substring(0, 4), "4 4 ");
    }

    /** The same: 6, when the tree is read for it and is not WHOLE; a PUT reads nothing. */
    private static void corruptInATransaction() {
        DiskRig d = four();
        // the ROOT
        d.rig.machine.disk(10, 0, 1);
        due("with the ROOT edited", d.run(0, BEGIN, put(0, 2), delete(0), delete(0), delete(7), put(7, 1), has(7), has(14), get(7, 9), UNDO),
                "0 0 0 7 6 0 0:1 6:0 0:1 0");
        due("6 comes ahead of 4", d.run(0, BEGIN, put(20, 0), put(21, 0), put(22, 0), put(23, 0), delete(7), put(7, 0), delete(20), UNDO),
                "0 0 0 0 0 6 4 0 0");
        d.rig.machine.disk(10, 0, 1);
        due("nothing is changed", d.run(0, has(0), has(7)), "0:1 0:1");
    }

    /** "GET and HAS tell what is noted, else what the tree tells". */
    private static void toldByWhatIsNoted() {
        DiskRig d = four();
        due("GET and HAS", d.run(0, BEGIN, put(0, 300), delete(7), put(30, 0), has(0), get(0, 10), get(0, 512), has(7), get(7, 512), has(30),
                get(30, 512), has(14), get(14, 512), has(31), get(31, 512)),
                "0 0 0 0 0:300 0:300 0:300 7:0 7:0 0:0 0:0 0:1 0:1 7:0 7:0");
        due("it was not done", d.run(0, has(0), has(7), has(30)), "0:1 0:1 7:0");
    }

    /** LIST: "(a transaction's changes do not count)". */
    private static void listTellsTheTree() {
        due("LIST", four().run(0, BEGIN, delete(0), delete(7), delete(14), put(2, 0), list(0), list(3), list(4), COMMIT, list(1), list(2)),
                "0 0 0 0 0 0:1 0:1 7:0 0 0:1 7:0");
    }

    /** "It ends by COMMIT, UNDO": nothing of it is done by UNDO, and what comes then is done at once. */
    private static void endsByUndo() {
        DiskRig d = four();
        due("UNDO", d.run(0, BEGIN, put(2, 1), delete(0), UNDO, has(2), has(0), put(3, 1), has(3)), "0 0 0 0 7:0 0:1 0 0:1");
        Check.due("COUNT", d.rig.count(), 2);
        due("no note is left for the next one", d.run(0, BEGIN, COMMIT, has(2), has(0)), "0 0 7:0 0:1");
    }

    /** "and when the run of the APPLET that began it ends (.. without being done)". */
    private static void endsWithTheRun() {
        DiskRig d = four();
        due("a run with BEGIN", d.run(0, BEGIN, put(2, 1)), "0 0");
        due("the next one", d.run(0, has(2), COMMIT, BEGIN, has(2), COMMIT), "7:0 7 0 7:0 0");
        Check.due("COUNT", d.rig.count(), 1);
    }

    /** "a fault of the APPLET". */
    private static void endsWithAFault() {
        DiskRig d = four();
        due("a run with BEGIN and PANIC", d.run(0, BEGIN, put(2, 1), DiskRig.PANIC), "fault 8");
        d.rig.open(0);
        due("the next one", d.run(0, has(2), UNDO, BEGIN), "7:0 7 0");
        Check.due("COUNT", d.rig.count(), 1);
    }

    /** "with the session": CLOSE and UNLOAD in the midst of it. */
    private static void endsWithTheSession() {
        for (int how : new int[] {6, 4}) {
            DiskRig d = four();
            int[][] records = {BEGIN, put(2, 1), COMMIT};
            d.tell(records, new int[0][]);
            d.rig.machine.call(12, 120, 0, 0);
            due("in the midst", d.rig.invoke(0, 0), "code 9");
            Check.due("call " + how, d.rig.machine.call(how, 0, 0, 0), 0);
            d.rig.machine.call(12, 0, 0, 0);
            if (how == 4) {
                d.start();
                Check.due("LOAD", d.rig.bringIn(d.image(0)), 8);
            } else {
                d.rig.open(0);
            }
            due("the next one", d.run(0, has(2), UNDO, BEGIN, has(2)), "7:0 7 0 7:0");
            Check.due("COUNT", d.rig.count(), 1);
        }
    }

    /** "(an asked one's, too; without being done)": by its end, and by its fault. */
    private static void anAskedOnes() {
        DiskRig d = new DiskRig(0, 1);
        due("an asked one's end", d.both(0, new int[][] {DiskRig.ask(1), COMMIT, BEGIN, has(2), UNDO, DiskRig.ask(1)},
                new int[][] {BEGIN, put(2, 1), has(2)}), "0:0 7 0 7:0 0 0:0 | 0 0 0:1");
        Check.due("COUNT", d.rig.count(), 0);
        due("an asked one's fault", d.both(0, new int[][] {DiskRig.ask(1), BEGIN}, new int[][] {BEGIN, put(2, 1), DiskRig.PANIC}),
                "5:8 0 | 0 0 0");
        Check.due("COUNT", d.rig.count(), 0);
        due("one that commits", d.both(0, new int[][] {DiskRig.ask(1), BEGIN}, new int[][] {BEGIN, put(2, 1), COMMIT}), "0:0 0 | 0 0 0");
        Check.due("COUNT", d.rig.count(), 1);
    }

    /** "PUT, GET, DELETE, HAS of the APPLET that began one, for that session, go by it": those of others do not. */
    private static void notTheAskers() {
        DiskRig d = new DiskRig(0, 1);
        due("the asked one's PUT is done at once", d.both(0, new int[][] {BEGIN, put(2, 1), DiskRig.ask(1), COMMIT},
                new int[][] {has(2), put(2, 5), has(2), delete(2), put(3, 1), COMMIT, UNDO}), "0 0 0:0 0 | 7:0 0 0:5 0 0 7 7");
        Check.due("COUNT", d.rig.count(), 4);
        due("KEPT of both", d.rig.kept(0).substring(0, 4) + d.rig.kept(1).substring(0, 4), "1 2 1 2 ");
        due("an asked one's fault leaves the asker's", d.both(0, new int[][] {BEGIN, put(4, 1), DiskRig.ask(1), COMMIT, has(4)},
                new int[][] {DiskRig.PANIC}), "0 0 5:8 0 0:1 | 0");
    }

    /** "also COMMIT that answers 4 or 6 ends it". */
    private static void endsByACommitThatFails() {
        DiskRig d = new DiskRig(0);
        d.run(0, DiskRig.puts(0, 7, 7, 0));
        due("COMMIT that answers 4", d.run(0, BEGIN, put(1, 1), put(49, 0), COMMIT, COMMIT, UNDO, has(1), BEGIN), "0 0 0 4 7 7 7:0 0");
        DiskRig corrupt = four();
        corrupt.rig.machine.disk(0, 0, 1);
        due("COMMIT that answers 6", corrupt.run(0, BEGIN, put(2, 1), COMMIT, COMMIT, UNDO, has(2), BEGIN), "0 0 6 7 7 7:0 0");
    }

    /** "each noted one, in order, as its PUT or DELETE (of what is not there: nothing)". */
    private static void nothingToDelete() {
        DiskRig d = four();
        due("a PUT that became a DELETE, and another PUT", d.run(0, BEGIN, put(2, 1), delete(2), put(3, 1), COMMIT, has(2), has(3)),
                "0 0 0 0 0 7:0 0:1");
        Check.due("COUNT", d.rig.count(), 2);
        due("KEPT", d.rig.kept(0), "5 5 14");
    }

    /** "if no place of a NODE changes: 0, and no WRITE". */
    private static void noPlaceChanges() {
        DiskRig d = four();
        d.rig.machine.power(0);
        due("COMMIT of nothing", d.run(0, BEGIN, COMMIT), "0 0");
        due("COMMIT of DELETEs of what is not there", d.run(0, BEGIN, put(2, 1), delete(2), put(21, 1), delete(21), COMMIT), "0 0 0 0 0 0");
        Check.due("COUNT", d.rig.count(), 1);
        Check.due("down", d.rig.machine.isDown(), false);
        DiskRig empty = new DiskRig(0);
        empty.rig.machine.power(0);
        due("without a ROOT, too", empty.run(0, BEGIN, put(2, 1), delete(2), COMMIT), "0 0 0 0");
        due("a PUT of the same bytes is a change", d.run(0, BEGIN, put(0, 1), COMMIT), "code -1");
    }

    /** "DATA and OBJECT of each in order, then the NODES that changed, by their place in the ROOT, then the ROOT; then the CELL". */
    private static void writtenInOrder() {
        DiskRig d = four();
        byte[][] before = disk(d);
        due("COMMIT", d.run(0, BEGIN, put(6, 257), put(8, 1), put(3, 0), delete(7), COMMIT), "0 0 0 0 0 0");
        due("eleven blocks", changed(before, d), "[11, 12, 13, 14, 15, 16, 17, 18, 19, 20, 21]");
        int[] objects = {13, 6, 15, 8, 16, 3};
        for (int i = 0; i < 6; i += 2) {
            Check.due("OBJECT " + objects[i], block(d, objects[i], 2), objects[i + 1]);
            Check.due("NUMBER is COUNT + 1 for all", block(d, objects[i], 27), 2);
        }
        Check.due("DATA 0 of 6", block(d, 13, 28), 11);
        Check.due("DATA 1 of 6", block(d, 13, 61), 12);
        Check.due("DATA 0 of 8", block(d, 15, 28), 14);
        int[] places = {17, 18, 255, 19, 255, 255, 20};
        for (int i = 0; i < 7; i++) {
            Check.due("place " + i + " of the ROOT", block(d, 21, 33 * i), places[i]);
        }
        Check.due("COUNT", d.rig.count(), 2);
        due("KEPT", d.rig.kept(0), "6 6 17");
    }

    /** "in order": the place that a DELETE ahead of it has made empty is taken, and not one behind it. */
    private static void aPlaceInTheMidst() {
        DiskRig d = four();
        due("DELETE of 7, PUT of 21", d.run(0, BEGIN, delete(7), put(21, 0), COMMIT), "0 0 0 0");
        int node = block(d, root2(d), 0);
        Check.due("21 has the place of 7", block(d, block(d, node, 33), 2), 21);
        DiskRig other = four();
        due("PUT of 21, DELETE of 7", other.run(0, BEGIN, put(21, 0), delete(7), COMMIT), "0 0 0 0");
        node = block(other, root2(other), 0);
        Check.due("the place of 7 is empty", block(other, node, 33), 255);
        Check.due("21 is in the fourth", block(other, block(other, node, 99), 2), 21);
    }

    /** The same as root(), by a name that has no NODE in these trees. */
    private static int root2(DiskRig d) {
        for (int block = 0; block < 64; block++) {
            d.rig.machine.disk(block, 255, 1);
            String answer = d.run(0, has(2));
            d.rig.machine.disk(block, 255, 1);
            if (answer.equals("6:0")) {
                return block;
            }
        }
        return -1;
    }

    /** "then 4, if a NODE has no place": nothing of it is done. */
    private static void commitWithoutPlace() {
        DiskRig d = new DiskRig(0);
        d.run(0, DiskRig.puts(0, 7, 7, 0));
        byte[][] before = disk(d);
        due("COMMIT", d.run(0, BEGIN, put(1, 1), put(49, 0), delete(0), COMMIT), "0 0 0 0 4");
        due("no block is written", changed(before, d), "[]");
        due("six and two more", d.run(0, delete(0), BEGIN, put(49, 0), put(56, 0), COMMIT), "0 0 0 0 4");
        due("six and one more", d.run(0, BEGIN, put(49, 0), put(7, 1), COMMIT), "0 0 0 0");
        due("DELETE of two, PUT of two", d.run(0, BEGIN, delete(7), delete(14), put(56, 0), put(63, 0), COMMIT), "0 0 0 0 0 0");
    }

    /** "or there are too few BLOCKS": just enough, and one more. */
    private static void commitWithTooFewBlocks() {
        for (int free : new int[] {1, 2, 3, 4}) {
            for (int n : new int[] {0, 1, 257}) {
                int needed = 3 + (n + 255) / 256;
                DiskRig d = leaving(free);
                byte[][] before = disk(d);
                due("COMMIT of a PUT of " + n + " with " + free + " free", d.run(0, BEGIN, put(0, n), COMMIT), needed > free ? "0 0 4" : "0 0 0");
                if (needed > free) {
                    due("no block is written", changed(before, d), "[]");
                }
            }
        }
        DiskRig d = leaving(4);
        due("two OBJECTS of one NODE with 4 free", d.run(0, BEGIN, put(0, 0), put(7, 0), COMMIT), "0 0 0 0");
        DiskRig e = leaving(4);
        due("two OBJECTS of two NODES with 4 free", e.run(0, BEGIN, put(0, 0), put(1, 0), COMMIT), "0 0 0 4");
        due("a DELETE of one NODE and a PUT of another with 4 free", e.run(0, BEGIN, delete(0), put(1, 0), COMMIT), "0 0 0 0");
        DiskRig f = leaving(3);
        due("a DELETE of one NODE and a PUT of another with 3 free", f.run(0, BEGIN, delete(0), put(1, 0), COMMIT), "0 0 0 4");
        DiskRig g = leaving(2);
        due("a DELETE of a NODE's last and a PUT of another with 2 free", g.run(0, BEGIN, delete(6), put(1, 0), COMMIT), "0 0 0 4");
        due("the DELETE of a NODE's last takes none", f.run(0, BEGIN, delete(6), put(1, 0), COMMIT), "0 0 0 0");
    }

    /** "6, if not all of the tree is WHOLE; then 4". */
    private static void commitOfACorruptTree() {
        DiskRig d = new DiskRig(0);
        d.run(0, put(1, 1));
        d.run(0, DiskRig.puts(0, 7, 7, 0));
        d.rig.machine.disk(0, 0, 1);
        due("6 comes ahead of 4", d.run(0, BEGIN, put(49, 0), COMMIT), "0 0 6");
        due("6 even for nothing", d.run(0, BEGIN, COMMIT), "0 6");
        d.rig.machine.disk(0, 0, 1);
        due("4", d.run(0, BEGIN, put(49, 0), COMMIT), "0 0 4");
    }

    /** "An empty NODE is none, a ROOT without any is none." */
    private static void emptyNodeIsNone() {
        DiskRig d = four();
        byte[][] before = disk(d);
        due("COMMIT of a NODE's last", d.run(0, BEGIN, delete(1), COMMIT), "0 0 0");
        due("the ROOT alone is written", changed(before, d), "[11]");
        due("KEPT", d.rig.kept(0), "3 3 8");
        before = disk(d);
        d.rig.machine.power(1);
        due("COMMIT of all that are left, with power for the CELL", d.run(0, BEGIN, delete(0), delete(7), delete(14), COMMIT), "0 0 0 0 0");
        due("no block is written", changed(before, d), "[]");
        due("KEPT", d.rig.kept(0), "0 0 0");
        Check.due("COUNT", d.rig.count(), 3);
        due("LIST", d.run(0, list(0)), "7:0");
    }

    /** "behind any cut of the power": with power for each number of WRITES, all of it is done or nothing. */
    private static void cutsOfACommit() {
        for (int k = 0; k <= 9; k++) {
            DiskRig d = four();
            d.rig.machine.power(k);
            // DATA and OBJECT of 6, OBJECT of 3; NODES 0, 3 and 6; ROOT; CELL
            due("COMMIT with power for " + k, d.run(0, BEGIN, put(6, 1), put(3, 0), delete(7), COMMIT), k < 8 ? "code -1" : "0 0 0 0 0");
            if (k < 8) {
                d.start();
            }
            Check.due("COUNT with power for " + k, d.rig.count(), k < 8 ? 1 : 2);
            due("what there is with power for " + k, d.run(0, has(6), has(3), has(7), has(0)), k < 8 ? "7:0 7:0 0:1 0:1" : "0:1 0:0 7:0 0:1");
            d.rig.machine.power(-1);
            due("it goes on with power for " + k, d.run(0, put(5, 512), has(5)), "0 0:512");
        }
    }
}
