import java.util.Arrays;
import java.util.HashMap;
import java.util.Map;

/**
 * A machine whose applets do what a list of records tells them: objects, transactions and asking others. Names
 * are of one byte, so the object b of product e has its place in NODE (e + b) mod 7; contents are the bytes 0, 1, ..
 */
final class DiskRig {
    static final int[] BEGIN = {Code.BEGIN, 0, 0, 0};
    static final int[] COMMIT = {Code.COMMIT, 0, 0, 0};
    static final int[] UNDO = {Code.UNDO, 0, 0, 0};
    static final int[] PANIC = {Code.PANIC, 0, 0, 0};

    private static final int[] KNOWN = {Code.PUT, Code.GET, Code.DELETE, Code.HAS, Code.LIST, Code.BEGIN, Code.COMMIT, Code.UNDO,
        Code.ASK, Code.PANIC};
    /** Words of the applet's: the record's place, what it tells, and which PARAMETER it is in. */
    private static final int AT = 200;
    private static final int SYS = 204;
    private static final int NAME = 208;
    private static final int SIZE = 212;
    private static final int LIST = 216;
    private static final int PARAMETER = 236;
    private static final int BYTES = 256;

    final Rig rig = new Rig();
    private final byte[][] images;

    /** Applets with all rights, one for each product: they are in, and session i is open for applet i. */
    DiskRig(int... products) {
        images = new byte[products.length][];
        for (int i = 0; i < products.length; i++) {
            byte[] image = image();
            // a byte more that is never come to makes another digest
            images[i] = Arrays.copyOf(image, image.length + i);
            rig.burn(images[i], 7);
            rig.machine.product(i, products[i], i);
        }
        start();
    }

    /** Boots, and brings all applets in. */
    void start() {
        rig.machine.boot();
        for (int page = 12; page < 24; page++) {
            rig.machine.call(1, page, 0, 0);
        }
        for (int i = 0; i < images.length; i++) {
            if (rig.bringIn(images[i]) == 0) {
                int session = rig.open(i);
                Check.due("the contents", rig.invoke(session, 2), "ends 0");
            }
        }
    }

    byte[] image(int applet) {
        return images[applet];
    }

    static int[] put(int name, int n) {
        return new int[] {Code.PUT, name, n >> 8, n & 255};
    }

    static int[] get(int name, int n) {
        return new int[] {Code.GET, name, n >> 8, n & 255};
    }

    static int[] delete(int name) {
        return new int[] {Code.DELETE, name, 0, 0};
    }

    static int[] has(int name) {
        return new int[] {Code.HAS, name, 0, 0};
    }

    static int[] list(int i) {
        return new int[] {Code.LIST, 0, i >> 8, i & 255};
    }

    /** What is asked does the records of both(..): COMMAND 1. */
    static int[] ask(int applet) {
        return new int[] {Code.ASK, applet, 0, 1};
    }

    /** PUTs of the names from first on, each step further, all of one size. */
    static int[][] puts(int first, int step, int how, int n) {
        int[][] out = new int[how][];
        for (int i = 0; i < how; i++) {
            out[i] = put(first + step * i, n);
        }
        return out;
    }

    /** The answers of a session's run: a code for each record, with what is told beside it. */
    String run(int session, int[]... records) {
        return both(session, records, new int[0][]);
    }

    /** The same, with records for an applet that is asked; its answers come behind a bar. */
    String both(int session, int[][] records, int[][] asked) {
        tell(records, asked);
        String outcome = rig.invoke(session, 0);
        return outcome.equals("ends 0") ? answers(records, asked) : outcome;
    }

    void tell(int[][] records, int[][] asked) {
        rig.store(Rig.BYTES, flat(records));
        rig.store(Rig.BYTES + 512, flat(asked));
        rig.tell(4, Rig.BYTES, 4 * records.length, 5, Rig.BYTES + 256, 4 * records.length, 4, Rig.BYTES + 512, 4 * asked.length,
                5, Rig.BYTES + 768, 4 * asked.length);
    }

    String answers(int[][] records, int[][] asked) {
        String first = answers(records, Rig.BYTES + 256);
        return asked.length == 0 ? first : first + " | " + answers(asked, Rig.BYTES + 768);
    }

    private String answers(int[][] records, int from) {
        StringBuilder out = new StringBuilder();
        for (int i = 0; i < records.length; i++) {
            int sys = records[i][0];
            int code = rig.machine.load(from + 4 * i);
            int more = rig.machine.load(from + 4 * i + 1) << 8 | rig.machine.load(from + 4 * i + 2);
            out.append(i == 0 ? "" : " ").append(code);
            if (sys == Code.GET || sys == Code.HAS || sys == Code.LIST || sys == Code.ASK) {
                out.append(':').append(more);
            }
        }
        return out.toString();
    }

    private static byte[] flat(int[][] records) {
        byte[] out = new byte[4 * records.length];
        for (int i = 0; i < out.length; i++) {
            out[i] = (byte) records[i / 4][i % 4];
        }
        return out;
    }

    // ---- the applet

    private static byte[] image() {
        Map<String, Integer> places = new HashMap<>();
        int[] begins = new int[3];
        byte[] code = new byte[0];
        // the second time all places that are jumped to are known
        for (int round = 0; round < 2; round++) {
            code = write(places, begins);
        }
        byte[] image = new byte[8 + code.length];
        image[0] = 4;
        image[1] = 3;
        for (int i = 0; i < 3; i++) {
            image[2 + 2 * i] = (byte) (begins[i] >> 8);
            image[3 + 2 * i] = (byte) begins[i];
        }
        System.arraycopy(code, 0, image, 8, code.length);
        return image;
    }

    private static void jump(Code c, int code, String to, Map<String, Integer> places) {
        c.jump(code, places.getOrDefault(to, 0));
    }

    private static Code load(Code c, int at) {
        return c.push(at).op(Code.LOADW);
    }

    private static void store(Code c, int at) {
        c.push(at).op(Code.STOREW);
    }

    /** The byte of the record that is so far behind its place. */
    private static void record(Code c, int behind) {
        load(c, AT).push(behind).op(Code.ADD);
        load(c, PARAMETER).sys(Code.GETBYTE);
    }

    private static byte[] write(Map<String, Integer> places, int[] begins) {
        Code c = new Code();
        begins[1] = c.place();
        c.word(PARAMETER, 2);
        jump(c, Code.JUMP, "shared", places);
        begins[0] = c.place();
        c.word(PARAMETER, 0);
        places.put("shared", c.place());
        c.word(AT, 0);
        places.put("loop", c.place());
        load(c, AT);
        load(c, PARAMETER).sys(Code.SIZE).op(Code.SUB);
        jump(c, Code.JZERO, "end", places);
        record(c, 0);
        store(c, SYS);
        record(c, 1);
        store(c, NAME);
        record(c, 2);
        c.push(8).op(Code.SHL);
        record(c, 3);
        c.op(Code.ADD);
        store(c, SIZE);
        for (int sys : KNOWN) {
            load(c, SYS).push(sys).op(Code.SUB);
            jump(c, Code.JZERO, "do " + sys, places);
        }
        places.put("end", c.place());
        c.end(0);
        for (int sys : KNOWN) {
            places.put("do " + sys, c.place());
            words(c, sys);
            c.sys(sys);
            boolean two = sys == Code.GET || sys == Code.HAS || sys == Code.LIST || sys == Code.ASK;
            jump(c, Code.JUMP, two ? "two" : "one", places);
        }
        places.put("one", c.place());
        c.push(0);
        places.put("two", c.place());
        answer(c, 2);
        c.push(8).op(Code.SHR);
        answer(c, 1);
        c.op(Code.DROP);
        answer(c, 0);
        c.op(Code.DROP);
        load(c, AT).push(4).op(Code.ADD);
        store(c, AT);
        jump(c, Code.JUMP, "loop", places);
        begins[2] = c.place();
        c.push(0);
        places.put("fill", c.place());
        c.op(Code.DUP, Code.DUP, Code.STOREB).push(1).op(Code.ADD, Code.DUP).push(768).op(Code.SUB);
        jump(c, Code.JZERO, "end", places);
        jump(c, Code.JUMP, "fill", places);
        return c.bytes();
    }

    private static void words(Code c, int sys) {
        if (sys == Code.PUT || sys == Code.GET) {
            c.push(BYTES);
            load(c, SIZE);
        }
        if (sys == Code.LIST) {
            load(c, SIZE).push(LIST);
        } else if (sys == Code.ASK) {
            load(c, NAME);
            load(c, SIZE);
        } else if (sys >= Code.PUT && sys <= Code.HAS) {
            load(c, NAME).push(1);
        }
    }

    /** The lowest byte of the top comes to a byte of the answer; the top stays. */
    private static void answer(Code c, int behind) {
        c.op(Code.DUP);
        load(c, AT).push(behind).op(Code.ADD);
        load(c, PARAMETER).push(1).op(Code.ADD).sys(Code.PUTBYTE);
    }
}
