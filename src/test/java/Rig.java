import java.nio.ByteBuffer;
import java.nio.ByteOrder;
import java.util.Arrays;

/** A machine with handles: it feeds bytes, burns and loads images, and invokes commands. */
final class Rig {
    /** Where the images and the parameters of invoke() lie in the normal world. */
    static final int IMAGE = 0;
    static final int TOLD = 1024;
    /** 256 bytes for each parameter of bytes. */
    static final int BYTES = 2048;

    final TrustedMachine machine = new TrustedMachine();

    /** A booted machine with one applet that is in, with all rights, and session 0 open for it. */
    static Rig with(int pages, Code... commands) {
        return withRights(7, pages, commands);
    }

    static Rig withRights(int rights, int pages, Code... commands) {
        Rig rig = new Rig();
        byte[] image = Code.image(pages, commands);
        rig.burn(image, rights);
        rig.start();
        rig.bringIn(image);
        rig.open(0);
        return rig;
    }

    /** What a command comes to: 'ends n', 'fault n', or 'code n'. */
    static String outcome(Code command) {
        return with(1, command).invoke(0, 0);
    }

    void feed(byte[] bytes) {
        machine.end(0);
        for (int i = 0; i < bytes.length; i += 20) {
            ByteBuffer part = ByteBuffer.wrap(Arrays.copyOfRange(bytes, i, i + 20));
            machine.feed(part.getInt(), part.getInt(), part.getInt(), part.getInt(), part.getInt());
        }
        machine.end(bytes.length);
    }

    int burn(byte[] image, int rights) {
        feed(image);
        int entry = machine.burn(rights);
        machine.end(0);
        return entry;
    }

    void setKey(byte[] key) {
        feed(key);
        machine.key();
    }

    /** Boots, and makes the pages 16 .. 23 free for applets. */
    void start() {
        machine.boot();
        for (int page = 16; page < 24; page++) {
            machine.call(1, page, 0, 0);
        }
    }

    boolean store(int at, byte[] bytes) {
        feed(bytes);
        return machine.store(at);
    }

    int bringIn(byte[] image) {
        store(IMAGE, image);
        return machine.call(3, IMAGE, image.length, 0);
    }

    int open(int applet) {
        return machine.call(5, applet, 0, 0) == 0 ? machine.result(0) : -1;
    }

    byte[] memory(int at, int n) {
        byte[] out = new byte[n];
        for (int i = 0; i < n; i++) {
            out[i] = (byte) machine.load(at + i);
        }
        return out;
    }

    int word(int at) {
        return ByteBuffer.wrap(memory(at, 4)).order(ByteOrder.LITTLE_ENDIAN).getInt();
    }

    /** Up to four PARAMETERS, three words each. */
    void tell(int... words) {
        ByteBuffer b = ByteBuffer.allocate(48).order(ByteOrder.LITTLE_ENDIAN);
        for (int w : words) {
            b.putInt(w);
        }
        store(TOLD, b.array());
    }

    /** A PARAMETER of bytes that come in, in its place for the words of tell(). */
    int[] bytesIn(int parameter, byte[] bytes) {
        store(BYTES + 256 * parameter, bytes);
        return new int[] {4, BYTES + 256 * parameter, bytes.length};
    }

    String invoke(int session, int command) {
        return answer(machine.call(7, session, command, TOLD));
    }

    String resume(int session) {
        return answer(machine.call(13, session, 0, 0));
    }

    private String answer(int code) {
        return (code == 0 ? "ends " : code == 5 ? "fault " : "code ") + (code == 0 || code == 5 ? machine.result(0) : code);
    }

    /** KEPT of a product: objects of it, of all, blocks in use; or the code. */
    String kept(int product) {
        int code = machine.call(10, product, 0, 0);
        return code != 0 ? "code " + code : machine.result(0) + " " + machine.result(1) + " " + machine.result(2);
    }

    int count() {
        machine.call(11, 0, 0, 0);
        return machine.result(0);
    }

    byte[] block(int block) {
        byte[] out = new byte[256];
        for (int k = 0; k < 256; k++) {
            out[k] = (byte) machine.disk(block, k, 0);
        }
        return out;
    }

    static byte[] rows(int n, int first) {
        byte[] out = new byte[n];
        for (int i = 0; i < n; i++) {
            out[i] = (byte) (first + 7 * i);
        }
        return out;
    }
}
