import java.security.GeneralSecurityException;
import java.security.MessageDigest;
import java.util.ArrayList;
import java.util.Arrays;
import java.util.LinkedHashMap;
import java.util.List;
import java.util.Map;
import java.util.NoSuchElementException;
import java.util.TreeMap;
import java.util.TreeSet;
import javax.crypto.Cipher;
import javax.crypto.Mac;
import javax.crypto.spec.ChaCha20ParameterSpec;
import javax.crypto.spec.IvParameterSpec;
import javax.crypto.spec.SecretKeySpec;

/**
 * The document once more, written plainly with the Java library's maps, lists and ciphers and without a
 * thought for speed: random runs of the class are held against it.
 */
final class Model {
    private static final int[] SYS_TAKES = {1, 1, 1, 2, 2, 1, 2, 3, 4, 4, 2, 2, 0, 3, 0, 2, 0, 0, 2, 0, 5, 3, 3, 3,
        4, 1, 2, 0, 0, 0, 0, 3, 3};
    private static final int[] SYS_GIVES = {1, 1, 1, 0, 0, 1, 1, 0, 1, 2, 1, 2, 1, 0, 1, 0, 0, 1, 2, 1, 0, 0, 1, 0,
        1, 0, 2, 1, 1, 1, 1, 0, 0};

    private static final class Fault extends RuntimeException {
        private static final long serialVersionUID = 1;
        final int number;

        Fault(int number) {
            super(null, null, false, false);
            this.number = number;
        }
    }

    private static final class Ends extends RuntimeException {
        private static final long serialVersionUID = 1;
        final int value;

        Ends(int value) {
            super(null, null, false, false);
            this.value = value;
        }
    }

    private static final class Off extends RuntimeException {
        private static final long serialVersionUID = 1;

        Off() {
            super(null, null, false, false);
        }
    }

    private enum Form { NODE, OBJECT, DATA }

    private static final class Corrupt extends RuntimeException {
        private static final long serialVersionUID = 1;

        Corrupt() {
            super(null, null, false, false);
        }
    }

    private static final class Entry {
        byte[] digest;
        int rights;
        int product;
        int version;
    }

    private final class App {
        final int number;
        final List<Integer> pages = new ArrayList<>();
        int[] begins;
        byte[] code;

        App(int number) {
            this.number = number;
        }

        Entry entry() {
            return rom.get(number);
        }

        boolean right(int bit) {
            return (entry().rights & bit) != 0;
        }

        void must(int a, int n) {
            long from = a & 0xffffffffL;
            long many = n & 0xffffffffL;
            if (from + many > 256L * pages.size()) {
                throw new Fault(4);
            }
        }

        int get(int a) {
            return memory[256 * pages.get(a / 256) + a % 256] & 255;
        }

        void set(int a, int v) {
            memory[256 * pages.get(a / 256) + a % 256] = (byte) v;
        }

        byte[] get(int a, int n) {
            must(a, n);
            byte[] out = new byte[n];
            for (int i = 0; i < n; i++) {
                out[i] = (byte) get(a + i);
            }
            return out;
        }

        void set(int a, byte[] bytes) {
            must(a, bytes.length);
            for (int i = 0; i < bytes.length; i++) {
                set(a + i, bytes[i]);
            }
        }
    }

    private static final class Frame {
        App app;
        final List<Integer> stack = new ArrayList<>();
        final List<Integer> returns = new ArrayList<>();
        int place;

        int pop() {
            return stack.remove(stack.size() - 1);
        }

        void push(int v) {
            stack.add(v);
        }
    }

    private static final class Sess {
        int owner;
        boolean cancelled;
        final List<Frame> frames = new ArrayList<>();
        int steps;
        int z;
        int[] sort = new int[4];
        int[] a = new int[4];
        int[] b = new int[4];
        byte[][] bytes = new byte[4][];
        App beganBy;
        /** Names in the order in which they were noted first; null for a DELETE. */
        Map<String, byte[]> notes;
    }

    /** An object as the tree has it. */
    private static final class Obj {
        int product;
        String name;
        int size;
        long number;
        int block;
        List<Integer> data = new ArrayList<>();
    }

    byte[] tape = new byte[0];
    private byte[] key = new byte[32];
    private final List<Entry> rom = new ArrayList<>();
    private boolean booted;
    boolean down = true;
    private int power = -1;
    byte[] memory = new byte[8192];
    private final String[] page = new String[32];
    byte[][] disk = new byte[64][256];
    private final byte[][] old = new byte[64][256];
    private int count;
    private int root = 255;
    private byte[] seal = new byte[32];
    private final int[] least = new int[8];
    private final Map<Integer, App> in = new TreeMap<>();
    private final Sess[] sessions = new Sess[16];
    private int slice;
    private int makes;
    private int[] results = new int[4];
    private final int[] register = new int[16];
    private int place;
    private int state;

    // ---- the face

    boolean feed(int... words) {
        if (tape.length + 20 > 1100) {
            return false;
        }
        int n = tape.length;
        tape = Arrays.copyOf(tape, n + 20);
        for (int i = 0; i < 20; i++) {
            tape[n + i] = (byte) (words[i / 4] >> 24 - 8 * (i % 4));
        }
        return true;
    }

    boolean end(int n) {
        if (n < 0 || n > tape.length) {
            return false;
        }
        tape = Arrays.copyOf(tape, n);
        return true;
    }

    int burn(int rights) {
        if (booted || rights < 0 || rights > 7 || rom.size() == 8) {
            return -1;
        }
        Entry entry = new Entry();
        entry.digest = sha(tape);
        entry.rights = rights;
        entry.product = rom.size() % 8;
        rom.add(entry);
        return rom.size() - 1;
    }

    boolean key() {
        if (booted || tape.length < 32) {
            return false;
        }
        key = Arrays.copyOf(tape, 32);
        tape = new byte[0];
        return true;
    }

    boolean product(int entry, int product, int version) {
        if (booted || entry < 0 || entry >= rom.size() || product < 0 || product > 7 || version < 0 || version > 9999) {
            return false;
        }
        rom.get(entry).product = product;
        rom.get(entry).version = version;
        return true;
    }

    boolean boot() {
        if (!down) {
            return false;
        }
        down = false;
        booted = true;
        power = -1;
        memory = new byte[8192];
        for (int i = 0; i < 32; i++) {
            page[i] = i < 24 ? "normal" : "never";
        }
        in.clear();
        Arrays.fill(sessions, null);
        slice = 0;
        makes = 0;
        Arrays.fill(register, 0);
        place = 0;
        state = 0;
        return true;
    }

    void power(int k) {
        power = k;
    }

    int result(int i) {
        if (i < 0 || i > 3) {
            throw new IndexOutOfBoundsException();
        }
        return results[i];
    }

    int load(int at) {
        return !down && normal(at, 1) ? memory[at] & 255 : -1;
    }

    boolean store(int at) {
        if (down || !normal(at, tape.length)) {
            return false;
        }
        for (int i = 0; i < tape.length; i++) {
            memory[at + i] = tape[i];
        }
        tape = new byte[0];
        return true;
    }

    boolean go(int where) {
        if (down) {
            return false;
        }
        place = where;
        state = 0;
        return true;
    }

    int register(int i) {
        if (i < 0 || i > 17) {
            throw new IndexOutOfBoundsException();
        }
        return i < 16 ? register[i] : i == 16 ? place : state;
    }

    int disk(int block, int k, int mask) {
        if (block < 0 || block > 63 || k < 0 || k > 255) {
            throw new NoSuchElementException();
        }
        disk[block][k] ^= (byte) mask;
        return disk[block][k] & 255;
    }

    boolean replay(int block) {
        if (block < 0 || block > 63) {
            return false;
        }
        disk[block] = old[block].clone();
        return true;
    }

    /** Not of the document: the CELL names another ROOT, as if two contents of its BLOCK had one DIGEST. */
    void setRoot(int block) {
        root = block;
        seal = block == 255 ? new byte[32] : sha(disk[block]);
    }

    // ---- Part V

    int walk(int n) {
        if (down || n < 0 || n > 1000) {
            return 0;
        }
        int done = 0;
        while (done < n && state == 0) {
            if (!instruction()) {
                state = 2;
                break;
            }
            done++;
        }
        return done;
    }

    private boolean instruction() {
        if (!normal(place, 4)) {
            return false;
        }
        int code = memory[place] & 255;
        int d = (memory[place + 1] & 255) % 16;
        int a = memory[place + 2] & 255;
        int b = memory[place + 3] & 255;
        int i = 256 * a + b;
        int j = i >= 32768 ? i - 65536 : i;
        int x = register[a % 16];
        int y = register[b % 16];
        int next = place + 4;
        if (code == 0) {
            state = 1;
            return true;
        } else if (code == 1) {
            register[d] = i;
        } else if (code == 2) {
            register[d] = i * 65536 + register[d] % 65536 + (register[d] % 65536 < 0 ? 65536 : 0);
        } else if (code == 3) {
            register[d] = x + y;
        } else if (code == 4) {
            register[d] = x - y;
        } else if (code == 5) {
            register[d] = x * y;
        } else if (code == 6) {
            register[d] = x & y;
        } else if (code == 7) {
            register[d] = x | y;
        } else if (code == 8) {
            register[d] = x ^ y;
        } else if (code == 9) {
            register[d] = x << y;
        } else if (code == 10) {
            register[d] = x >>> y;
        } else if (code == 11) {
            register[d] = Integer.compareUnsigned(x, y) < 0 ? 1 : 0;
        } else if (code <= 15) {
            int at = x + b;
            if (!normal(at, code < 14 ? 1 : 4)) {
                return false;
            }
            if (code == 12) {
                register[d] = memory[at] & 255;
            } else if (code == 13) {
                memory[at] = (byte) register[d];
            } else if (code == 14) {
                register[d] = word(at);
            } else {
                setWord(at, register[d]);
            }
        } else if (code == 16) {
            next += 4 * j;
        } else if (code == 17) {
            next += register[d] == 0 ? 4 * j : 0;
        } else if (code == 18) {
            register[d] = next;
            next += 4 * j;
        } else if (code == 19) {
            next = register[d];
        } else if (code == 20) {
            int answer = call(i, register[1], register[2], register[3]);
            register[0] = answer;
            for (int k = 0; k < 4; k++) {
                register[1 + k] = results[k];
            }
        } else {
            return false;
        }
        place = next;
        return true;
    }

    // ---- memory

    private boolean normal(int at, int n) {
        if (at < 0 || n < 0) {
            return false;
        }
        for (int i = 0; i < n; i++) {
            if (at + i < 0 || at + i >= 8192 || !page[(at + i) / 256].equals("normal")) {
                return false;
            }
        }
        return true;
    }

    private int word(int at) {
        int w = 0;
        for (int i = 3; i >= 0; i--) {
            w = w * 256 + (memory[at + i] & 255);
        }
        return w;
    }

    private void setWord(int at, int w) {
        for (int i = 0; i < 4; i++) {
            memory[at + i] = (byte) (w >> 8 * i);
        }
    }

    // ---- Part II

    int call(int number, int x, int y, int z) {
        results = new int[4];
        if (down) {
            return -1;
        }
        int code;
        try {
            code = answer(number, x, y, z);
        } catch (Corrupt e) {
            code = 6;
        } catch (Off e) {
            down = true;
            state = 1;
            code = -1;
        }
        if (code != 0 && code != 5) {
            results = new int[4];
        }
        return code;
    }

    private Sess session(int x) {
        return x < 0 || x > 15 ? null : sessions[x];
    }

    private int answer(int number, int x, int y, int z) {
        Sess s = session(x);
        App app = in.get(x);
        switch (number) {
            case 0:
                results[0] = 1;
                return 0;
            case 1:
                if (x < 8 || x > 23) {
                    return 1;
                }
                if (!page[x].equals("normal")) {
                    return 8;
                }
                page[x] = "free";
                wipe(x);
                return 0;
            case 2:
                if (x < 8 || x > 23) {
                    return 1;
                }
                if (page[x].equals("normal")) {
                    return 3;
                }
                if (!page[x].equals("free")) {
                    return 8;
                }
                page[x] = "normal";
                return 0;
            case 3:
                return loadApplet(x, y);
            case 4:
                if (app == null) {
                    return 3;
                }
                Sess runsFor = runsFor(app);
                if (runsFor != null && runsFor.owner != x) {
                    return 8;
                }
                for (int i = 0; i < 16; i++) {
                    if (sessions[i] != null && sessions[i].owner == x) {
                        sessions[i] = null;
                    }
                }
                for (int p : app.pages) {
                    page[p] = "free";
                    wipe(p);
                }
                in.remove(x);
                return 0;
            case 5:
                if (app == null) {
                    return 3;
                }
                for (int i = 0; i < 16; i++) {
                    if (sessions[i] == null) {
                        sessions[i] = new Sess();
                        sessions[i].owner = x;
                        results[0] = i;
                        return 0;
                    }
                }
                return 4;
            case 6:
                if (s == null) {
                    return 3;
                }
                sessions[x] = null;
                return 0;
            case 7:
                return invoke(x, y, z);
            case 8:
                if (s == null) {
                    return 3;
                }
                s.cancelled = true;
                return 0;
            case 9:
                if (y < 0 || y > 1024 || !normal(x, y) || !normal(z, 32)) {
                    return 1;
                }
                byte[] hashed = new byte[y];
                for (int i = 0; i < y; i++) {
                    hashed[i] = memory[x + i];
                }
                System.arraycopy(sha(hashed), 0, memory, z, 32);
                return 0;
            case 10:
                if (x < 0 || x > 7) {
                    return 1;
                }
                Obj[][] tree = readTree();
                for (Obj[] node : tree) {
                    for (int i = 0; node != null && i < 7; i++) {
                        if (node[i] != null) {
                            results[1]++;
                            results[0] += node[i].product == x ? 1 : 0;
                        }
                    }
                }
                results[2] = usedBlocks(tree).size();
                return 0;
            case 11:
                results[0] = count;
                return 0;
            case 12:
                if (x < 0 || x > 20000) {
                    return 1;
                }
                slice = x;
                return 0;
            case 13:
                if (s == null) {
                    return 3;
                }
                if (s.frames.isEmpty()) {
                    return 1;
                }
                return run(x);
            case 14:
                if (app == null) {
                    return 3;
                }
                if (app.entry().version <= least[app.entry().product]) {
                    return 1;
                }
                spend();
                count++;
                least[app.entry().product] = app.entry().version;
                return 0;
            case 15:
                if (!normal(x, 32)) {
                    return 1;
                }
                System.arraycopy(PlainCurve.publicKey(signingKey()), 0, memory, x, 32);
                return 0;
            case 16:
                return prove(x, y, z);
            default:
                return 1;
        }
    }

    private void wipe(int p) {
        Arrays.fill(memory, 256 * p, 256 * p + 256, (byte) 0);
    }

    private Sess runsFor(App app) {
        for (Sess s : sessions) {
            if (s != null) {
                for (Frame f : s.frames) {
                    if (f.app == app) {
                        return s;
                    }
                }
            }
        }
        return null;
    }

    private int loadApplet(int x, int y) {
        if (y < 1 || y > 1024 || !normal(x, y)) {
            return 1;
        }
        byte[] image = Arrays.copyOfRange(memory, x, x + y);
        byte[] digest = sha(image);
        int found = -1;
        for (int i = rom.size() - 1; i >= 0; i--) {
            if (Arrays.equals(digest, rom.get(i).digest)) {
                found = i;
            }
        }
        if (found < 0 || rom.get(found).version < least[rom.get(found).product]) {
            return 2;
        }
        for (App other : in.values()) {
            if (other.number == found || other.entry().product == rom.get(found).product) {
                return 8;
            }
        }
        if (y < 2 || image[0] < 1 || image[0] > 4 || image[1] < 1 || image[1] > 8) {
            return 1;
        }
        int header = 2 + 2 * image[1];
        if (y <= header) {
            return 1;
        }
        App app = new App(found);
        app.code = Arrays.copyOfRange(image, header, y);
        app.begins = new int[image[1]];
        for (int i = 0; i < app.begins.length; i++) {
            app.begins[i] = 256 * (image[2 + 2 * i] & 255) + (image[3 + 2 * i] & 255);
            if (app.begins[i] >= app.code.length) {
                return 1;
            }
        }
        List<Integer> free = freePages();
        if (free.size() < image[0]) {
            return 4;
        }
        for (int i = 0; i < image[0]; i++) {
            app.pages.add(free.get(i));
            page[free.get(i)] = "taken";
        }
        in.put(found, app);
        results[0] = found;
        return 0;
    }

    private List<Integer> freePages() {
        List<Integer> free = new ArrayList<>();
        for (int i = 0; i < 32; i++) {
            if (page[i].equals("free")) {
                free.add(i);
            }
        }
        return free;
    }

    private int prove(int x, int y, int z) {
        App app = in.get(x);
        if (app == null) {
            return 3;
        }
        if (!normal(y, 32) || !normal(z, 64)) {
            return 1;
        }
        int open = 0;
        for (Sess s : sessions) {
            open += s != null && s.owner == x ? 1 : 0;
        }
        java.nio.ByteBuffer signed = java.nio.ByteBuffer.allocate(76);
        signed.put(app.entry().digest).put(memory, y, 32);
        signed.putInt(app.entry().version).putInt(count).putInt(open);
        System.arraycopy(PlainCurve.sign(signingKey(), signed.array()), 0, memory, z, 64);
        return 0;
    }

    private int invoke(int x, int y, int z) {
        Sess s = session(x);
        if (s == null) {
            return 3;
        }
        if (!s.frames.isEmpty()) {
            return 8;
        }
        App app = in.get(s.owner);
        if (y < 0 || y >= app.begins.length) {
            return 1;
        }
        if (runsFor(app) != null) {
            return 8;
        }
        if (!normal(z, 48)) {
            return 1;
        }
        for (int i = 0; i < 4; i++) {
            int sort = word(z + 12 * i);
            int a = word(z + 12 * i + 4);
            int b = word(z + 12 * i + 8);
            boolean fine = sort >= 0 && sort <= 3
                    || sort >= 4 && sort <= 6 && b >= 0 && b <= 256 && (b == 0 || normal(a, b));
            if (!fine) {
                return 1;
            }
            s.sort[i] = sort;
            s.a[i] = sort == 2 ? 0 : a;
            s.b[i] = sort == 2 ? 0 : b;
            s.bytes[i] = sort < 4 ? null : new byte[b];
            if (sort == 4 || sort == 6) {
                for (int k = 0; k < b; k++) {
                    s.bytes[i][k] = memory[a + k];
                }
            }
        }
        s.z = z;
        s.steps = 0;
        begin(s, app, y);
        return run(x);
    }

    private void begin(Sess s, App app, int command) {
        Frame f = new Frame();
        f.app = app;
        f.place = app.begins[command];
        s.frames.add(f);
    }

    private int run(int x) {
        Sess s = sessions[x];
        int codes = 0;
        while (true) {
            if (slice > 0 && codes == slice) {
                return 9;
            }
            Frame f = s.frames.get(s.frames.size() - 1);
            int before = s.steps;
            int c;
            int r;
            try {
                one(s, f);
                codes += s.steps > before ? 1 : 0;
                continue;
            } catch (Ends e) {
                c = 0;
                r = e.value;
            } catch (Fault e) {
                c = 5;
                r = e.number;
            }
            codes += s.steps > before ? 1 : 0;
            s.frames.remove(s.frames.size() - 1);
            if (s.beganBy == f.app) {
                s.beganBy = null;
            }
            if (c == 5 && r == 6) {
                s.frames.clear();
                s.beganBy = null;
            }
            if (s.frames.isEmpty()) {
                return over(x, c, r);
            }
            Frame asker = s.frames.get(s.frames.size() - 1);
            asker.push(c);
            asker.push(r);
        }
    }

    private int over(int x, int c, int r) {
        Sess s = sessions[x];
        if (c == 5) {
            sessions[x] = null;
            results[0] = r;
            return 5;
        }
        for (int i = 0; i < 4; i++) {
            if ((s.sort[i] == 2 || s.sort[i] == 3) && !normal(s.z + 12 * i + 4, 8)) {
                return 2;
            }
            if (s.sort[i] >= 5 && s.b[i] > 0 && !normal(s.a[i], s.b[i])) {
                return 2;
            }
        }
        for (int i = 0; i < 4; i++) {
            if (s.sort[i] == 2 || s.sort[i] == 3) {
                setWord(s.z + 12 * i + 4, s.a[i]);
                setWord(s.z + 12 * i + 8, s.b[i]);
            }
            if (s.sort[i] >= 5) {
                for (int k = 0; k < s.b[i]; k++) {
                    memory[s.a[i] + k] = s.bytes[i][k];
                }
            }
        }
        results[0] = r;
        return 0;
    }

    // ---- Part III

    private static int take(Frame f, int n) {
        if (f.place + n > f.app.code.length) {
            throw new Fault(1);
        }
        int v = 0;
        for (int i = 0; i < n; i++) {
            v = v * 256 + (f.app.code[f.place + i] & 255);
        }
        f.place += n;
        return v;
    }

    private static void counts(Frame f, int takes, int gives) {
        if (f.stack.size() < takes) {
            throw new Fault(2);
        }
        if (f.stack.size() - takes + gives > 64) {
            throw new Fault(3);
        }
    }

    private void one(Sess s, Frame f) {
        if (s.steps == 20000) {
            throw new Fault(6);
        }
        if (f.place >= f.app.code.length) {
            throw new Fault(1);
        }
        s.steps++;
        int code = take(f, 1);
        if (code > 23) {
            throw new Fault(1);
        }
        if (code == 0) {
            throw new Ends(f.stack.isEmpty() ? 0 : f.pop());
        } else if (code == 1) {
            int w = Integer.reverseBytes(take(f, 4));
            counts(f, 0, 1);
            f.push(w);
        } else if (code == 2) {
            counts(f, 1, 2);
            f.push(f.stack.get(f.stack.size() - 1));
        } else if (code == 3) {
            counts(f, 1, 0);
            f.pop();
        } else if (code == 4) {
            counts(f, 2, 2);
            int y = f.pop();
            int x = f.pop();
            f.push(y);
            f.push(x);
        } else if (code <= 14) {
            counts(f, 2, 1);
            int y = f.pop();
            int x = f.pop();
            f.push(new int[] {x + y, x - y, x * y, x & y, x | y, x ^ y, x << y, x >>> y,
                Integer.compareUnsigned(x, y) < 0 ? 1 : 0, x == y ? 1 : 0}[code - 5]);
        } else if (code <= 17) {
            int o = take(f, 2);
            counts(f, code == 16 ? 1 : 0, 0);
            if (code == 17) {
                if (f.returns.size() == 16) {
                    throw new Fault(5);
                }
                f.returns.add(f.place);
            }
            if (code != 16 || f.pop() == 0) {
                f.place = o;
            }
        } else if (code == 18) {
            if (f.returns.isEmpty()) {
                throw new Fault(5);
            }
            f.place = f.returns.remove(f.returns.size() - 1);
        } else if (code <= 22) {
            boolean loads = code == 19 || code == 21;
            counts(f, loads ? 1 : 2, loads ? 1 : 0);
            int a = f.pop();
            int n = code < 21 ? 1 : 4;
            f.app.must(a, n);
            int v = loads ? 0 : f.pop();
            for (int i = 0; i < n; i++) {
                if (loads) {
                    v += f.app.get(a + i) << 8 * i;
                } else {
                    f.app.set(a + i, v >> 8 * i);
                }
            }
            if (loads) {
                f.push(v);
            }
        } else {
            int n = take(f, 1);
            if (n > 32) {
                throw new Fault(1);
            }
            counts(f, SYS_TAKES[n], SYS_GIVES[n]);
            int[] w = new int[5];
            for (int i = SYS_TAKES[n] - 1; i >= 0; i--) {
                w[i] = f.pop();
            }
            extra(s, n, w[1]);
            sys(s, f, n, w);
        }
    }

    private static void extra(Sess s, int sys, int n) {
        int more = 0;
        if (List.of(8, 9, 10, 11, 26, 28).contains(sys)) {
            more = 100;
        } else if (List.of(23, 24, 25, 31).contains(sys)) {
            more = 5000;
        } else if (List.of(13, 15, 20, 21, 22, 32).contains(sys)) {
            more = (int) Math.min(2048, n & 0xffffffffL) / 64;
        }
        if (s.steps + more > 20000) {
            throw new Fault(6);
        }
        s.steps += more;
    }

    private static void size(int n, int least, int most) {
        if (n < least || n > most) {
            throw new Fault(4);
        }
    }

    private void sys(Sess s, Frame f, int n, int[] w) {
        App app = f.app;
        if (n <= 7) {
            parameter(s, f, n, w);
        } else if (n <= 11 || n >= 26 && n <= 29) {
            objects(s, f, n, w);
        } else if (n >= 20 && n <= 25 || n == 31 || n == 13 || n == 15 || n == 32) {
            secrets(f, n, w);
        } else if (n == 12) {
            f.push(s.cancelled ? 1 : 0);
        } else if (n == 14) {
            f.push(count);
        } else if (n == 16) {
            throw new Fault(8);
        } else if (n == 17) {
            f.push(app.number);
        } else if (n == 18) {
            App asked = in.get(w[0]);
            int c = 0;
            if (!app.right(2)) {
                c = 2;
            } else if (asked == null || w[1] < 0 || w[1] >= asked.begins.length) {
                c = 3;
            } else if (runsFor(asked) != null || s.frames.size() == 4) {
                c = 8;
            }
            if (c != 0) {
                f.push(c);
                f.push(0);
            } else {
                begin(s, asked, w[1]);
            }
        } else if (n == 19) {
            List<Integer> free = freePages();
            if (app.pages.size() == 8 || free.isEmpty()) {
                f.push(4);
            } else {
                page[free.get(0)] = "taken";
                app.pages.add(free.get(0));
                f.push(0);
            }
        } else {
            f.push(s.steps);
        }
    }

    private static void parameter(Sess s, Frame f, int n, int[] w) {
        int i = w[SYS_TAKES[n] - 1];
        if (i < 0 || i > 3) {
            throw new Fault(7);
        }
        String sorts = new String[] {"0123456", "123", "123", "23", "23", "456", "456", "56"}[n];
        if (sorts.indexOf('0' + s.sort[i]) < 0) {
            throw new Fault(7);
        }
        int k = n == 6 ? w[0] : w[1];
        if (n >= 6 && (k < 0 || k >= s.b[i])) {
            throw new Fault(7);
        }
        switch (n) {
            case 0: f.push(s.sort[i]); break;
            case 1: f.push(s.a[i]); break;
            case 2: f.push(s.b[i]); break;
            case 3: s.a[i] = w[0]; break;
            case 4: s.b[i] = w[0]; break;
            case 5: f.push(s.b[i]); break;
            case 6: f.push(s.bytes[i][k] & 255); break;
            default: s.bytes[i][k] = (byte) w[0]; break;
        }
    }

    private void secrets(Frame f, int n, int[] w) {
        App app = f.app;
        int[] most = {0, 0, 0, 0, 0, 0, 0, 0, 0, 0, 0, 0, 0, 2048, 0, 256, 0, 0, 0, 0, 2048, 512, 512, 512, 512, 0, 0, 0,
            0, 0, 0, 0, 2048};
        if (n != 25 && n != 31) {
            size(w[1], 0, most[n]);
            app.must(w[0], n == 21 || n == 22 ? w[1] + 16 : w[1]);
        }
        switch (n) {
            case 13: app.must(w[2], 32); break;
            case 20:
                size(w[3], 0, 64);
                app.must(w[2], w[3]);
                app.must(w[4], 32);
                break;
            case 21: case 22: app.must(w[2], 12); break;
            case 23: app.must(w[2], 64); break;
            case 24:
                app.must(w[2], 32);
                app.must(w[3], 64);
                break;
            case 25: app.must(w[0], 32); break;
            case 31:
                app.must(w[0], 32);
                app.must(w[1], 32);
                app.must(w[2], 32);
                break;
            case 32: app.must(w[2], w[1]); break;
            default: break;
        }
        if (n != 13 && n != 20 && n != 24 && n != 32 && !app.right(4)) {
            throw new Fault(7);
        }
        byte[] text = n == 25 || n == 31 ? null : app.get(w[0], w[1]);
        switch (n) {
            case 13: app.set(w[2], sha(text)); break;
            case 15:
                byte[] nonce = new byte[12];
                nonce[0] = (byte) app.number;
                for (int i = 0; i < 4; i++) {
                    nonce[8 + i] = (byte) (makes >> 24 - 8 * i);
                }
                app.set(w[0], secret(nonce, new byte[w[1]]));
                makes++;
                break;
            case 20: app.set(w[4], mac(app.get(w[2], w[3]), text)); break;
            case 21: app.set(w[0], aead(true, app, app.get(w[2], 12), text)); break;
            case 22:
                byte[] plain = aead(false, app, app.get(w[2], 12), app.get(w[0], w[1] + 16));
                if (plain != null) {
                    app.set(w[0], plain);
                }
                f.push(plain == null ? 6 : 0);
                break;
            case 23: app.set(w[2], PlainCurve.sign(signingKey(), text)); break;
            case 24: f.push(PlainCurve.verifies(app.get(w[2], 32), text, app.get(w[3], 64)) ? 1 : 0); break;
            case 25: app.set(w[0], PlainCurve.publicKey(signingKey())); break;
            case 31: app.set(w[2], PlainCurve.agree(app.get(w[0], 32), app.get(w[1], 32))); break;
            default: app.set(w[2], text); break;
        }
    }

    // ---- objects

    private void objects(Sess s, Frame f, int n, int[] w) {
        App app = f.app;
        int product = app.entry().product;
        boolean mine = s.beganBy == app;
        if (n == 8 || n == 9) {
            size(w[1], 0, 512);
            app.must(w[0], w[1]);
        }
        String name = null;
        if (n <= 11) {
            int d = n <= 9 ? w[2] : w[0];
            int m = n <= 9 ? w[3] : w[1];
            size(m, 1, 16);
            name = text(app.get(d, m));
        }
        if (n == 26) {
            app.must(w[1], 16);
        }
        boolean two = n == 9 || n == 11 || n == 26;
        if (!app.right(1) && n != 28 && n != 29 && !(n == 27 && s.beganBy != null)) {
            f.push(2);
            if (two) {
                f.push(0);
            }
            return;
        }
        try {
            switch (n) {
                case 8:
                    f.push(mine ? note(s, name, app.get(w[0], w[1])) : put(product, name, app.get(w[0], w[1])));
                    return;
                case 9: case 11:
                    byte[] bytes = mine && s.notes.containsKey(name) ? s.notes.get(name) : null;
                    if (bytes == null && !(mine && s.notes.containsKey(name))) {
                        Obj found = find(product, name);
                        if (found != null) {
                            bytes = n == 9 ? bytes(found) : new byte[found.size];
                        }
                    }
                    if (bytes != null && n == 9) {
                        app.set(w[0], Arrays.copyOf(bytes, Math.min(w[1], bytes.length)));
                    }
                    f.push(bytes == null ? 7 : 0);
                    f.push(bytes == null ? 0 : bytes.length);
                    return;
                case 10:
                    boolean there = mine && s.notes.containsKey(name) ? s.notes.get(name) != null
                            : find(product, name) != null;
                    f.push(!there ? 7 : mine ? note(s, name, null) : delete(product, name));
                    return;
                case 26:
                    Obj listed = list(product, w[0]);
                    if (listed != null) {
                        app.set(w[1], Arrays.copyOf(raw(listed.name), 16));
                    }
                    f.push(listed == null ? 7 : 0);
                    f.push(listed == null ? 0 : listed.name.length());
                    return;
                case 27:
                    f.push(s.beganBy != null ? 8 : 0);
                    if (s.beganBy == null) {
                        s.beganBy = app;
                        s.notes = new LinkedHashMap<>();
                    }
                    return;
                case 28:
                    if (!mine) {
                        f.push(7);
                        return;
                    }
                    s.beganBy = null;
                    f.push(commit(product, s.notes, true));
                    return;
                default:
                    f.push(mine ? 0 : 7);
                    if (mine) {
                        s.beganBy = null;
                    }
                    return;
            }
        } catch (Corrupt e) {
            f.push(6);
            if (two) {
                f.push(0);
            }
        }
    }

    private static int note(Sess s, String name, byte[] bytes) {
        if (!s.notes.containsKey(name) && s.notes.size() == 4) {
            return 4;
        }
        s.notes.put(name, bytes);
        return 0;
    }

    private static String text(byte[] bytes) {
        return new String(bytes, java.nio.charset.StandardCharsets.ISO_8859_1);
    }

    private static byte[] raw(String name) {
        return name.getBytes(java.nio.charset.StandardCharsets.ISO_8859_1);
    }

    /** The block that a place of 33 bytes names, if it is whole; null for none. */
    private Integer placeAt(byte[] holder, int at, Form form) {
        int block = holder[at] & 255;
        if (block == 255 && form != Form.DATA) {
            return null;
        }
        if (block > 63) {
            throw new Corrupt();
        }
        mustBeWhole(block, Arrays.copyOfRange(holder, at + 1, at + 33), form);
        return block;
    }

    private void mustBeWhole(int block, byte[] digest, Form form) {
        byte[] b = disk[block];
        boolean formed = form == Form.DATA || (form == Form.NODE ? isNode(b) : isObject(b));
        if (!Arrays.equals(sha(b), digest) || !formed) {
            throw new Corrupt();
        }
    }

    private static boolean isNode(byte[] b) {
        for (int i = 0; i < 7; i++) {
            if ((b[33 * i] & 255) == 255 && !zeros(b, 33 * i + 1, 33 * i + 33)) {
                return false;
            }
        }
        return zeros(b, 231, 256);
    }

    private static boolean isObject(byte[] b) {
        int size = 256 * (b[18] & 255) + (b[19] & 255);
        return (b[0] & 255) < 8 && b[1] >= 1 && b[1] <= 16 && size <= 512 && zeros(b, 2 + b[1], 18)
                && zeros(b, 28 + 33 * ((size + 255) / 256), 256);
    }

    private static boolean zeros(byte[] b, int from, int to) {
        return Arrays.equals(Arrays.copyOfRange(b, from, to), new byte[to - from]);
    }

    private byte[] rootBlock() {
        if (root == 255) {
            return null;
        }
        mustBeWhole(root, seal, Form.NODE);
        return disk[root];
    }

    private Obj object(int block) {
        byte[] b = disk[block];
        Obj o = new Obj();
        o.block = block;
        o.product = b[0];
        o.name = text(Arrays.copyOfRange(b, 2, 2 + b[1]));
        o.size = 256 * b[18] + (b[19] & 255);
        o.number = java.nio.ByteBuffer.wrap(b, 20, 8).getLong();
        for (int i = 0; i < (o.size + 255) / 256; i++) {
            o.data.add(b[28 + 33 * i] & 255);
        }
        return o;
    }

    private static int wayOf(int product, String name) {
        int sum = product;
        for (char c : name.toCharArray()) {
            sum += c;
        }
        return sum % 7;
    }

    private Obj find(int product, String name) {
        byte[] top = rootBlock();
        Integer node = top == null ? null : placeAt(top, 33 * wayOf(product, name), Form.NODE);
        for (int i = 0; node != null && i < 7; i++) {
            Integer block = placeAt(disk[node], 33 * i, Form.OBJECT);
            if (block != null) {
                Obj o = object(block);
                if (o.product == product && o.name.equals(name)) {
                    return o;
                }
            }
        }
        return null;
    }

    private Obj list(int product, int wanted) {
        byte[] top = rootBlock();
        long left = wanted & 0xffffffffL;
        for (int n = 0; top != null && n < 7; n++) {
            Integer node = placeAt(top, 33 * n, Form.NODE);
            for (int i = 0; node != null && i < 7; i++) {
                Integer block = placeAt(disk[node], 33 * i, Form.OBJECT);
                if (block != null && object(block).product == product && left-- == 0) {
                    return object(block);
                }
            }
        }
        return null;
    }

    private byte[] bytes(Obj o) {
        byte[] all = new byte[256 * o.data.size()];
        for (int i = 0; i < o.data.size(); i++) {
            placeAt(disk[o.block], 28 + 33 * i, Form.DATA);
        }
        for (int i = 0; i < o.data.size(); i++) {
            System.arraycopy(secret(nonce(o.number, i), disk[o.data.get(i)]), 0, all, 256 * i, 256);
        }
        return Arrays.copyOf(all, o.size);
    }

    private static byte[] nonce(long number, int part) {
        return java.nio.ByteBuffer.allocate(12).putLong(number).putInt(part).array();
    }

    /** All of the tree, whole: a row of seven for each node, null for a node that is none. */
    private Obj[][] readTree() {
        Obj[][] tree = new Obj[7][];
        byte[] top = rootBlock();
        for (int n = 0; top != null && n < 7; n++) {
            Integer node = placeAt(top, 33 * n, Form.NODE);
            if (node != null) {
                tree[n] = new Obj[7];
                for (int i = 0; i < 7; i++) {
                    Integer block = placeAt(disk[node], 33 * i, Form.OBJECT);
                    if (block != null) {
                        tree[n][i] = object(block);
                        for (int k = 0; k < tree[n][i].data.size(); k++) {
                            placeAt(disk[block], 28 + 33 * k, Form.DATA);
                        }
                    }
                }
            }
        }
        return tree;
    }

    private TreeSet<Integer> usedBlocks(Obj[][] tree) {
        TreeSet<Integer> used = new TreeSet<>();
        if (root != 255) {
            used.add(root);
        }
        for (int n = 0; n < 7; n++) {
            if (tree[n] != null) {
                used.add(disk[root][33 * n] & 255);
                for (Obj o : tree[n]) {
                    if (o != null) {
                        used.add(o.block);
                        used.addAll(o.data);
                    }
                }
            }
        }
        return used;
    }

    private int put(int product, String name, byte[] bytes) {
        if (find(product, name) == null) {
            byte[] top = rootBlock();
            Integer node = top == null ? null : placeAt(top, 33 * wayOf(product, name), Form.NODE);
            boolean full = node != null;
            for (int i = 0; full && i < 7; i++) {
                full = (disk[node][33 * i] & 255) != 255;
            }
            if (full) {
                return 4;
            }
        }
        Map<String, byte[]> one = new LinkedHashMap<>();
        one.put(name, bytes);
        return commit(product, one, false);
    }

    private int delete(int product, String name) {
        Map<String, byte[]> one = new LinkedHashMap<>();
        one.put(name, null);
        return commit(product, one, false);
    }

    private int commit(int product, Map<String, byte[]> notes, boolean together) {
        Obj[][] tree = readTree();
        TreeSet<Integer> used = usedBlocks(tree);
        boolean[] changed = new boolean[7];
        for (Map.Entry<String, byte[]> note : notes.entrySet()) {
            int n = wayOf(product, note.getKey());
            int at = -1;
            int empty = -1;
            for (int i = 6; i >= 0; i--) {
                Obj o = tree[n] == null ? null : tree[n][i];
                if (o == null) {
                    empty = i;
                } else if (o.product == product && o.name.equals(note.getKey())) {
                    at = i;
                }
            }
            if (note.getValue() == null) {
                if (at >= 0) {
                    tree[n][at] = null;
                    changed[n] = true;
                }
                continue;
            }
            if (at < 0 && empty < 0) {
                return 4;
            }
            Obj o = new Obj();
            o.product = product;
            o.name = note.getKey();
            o.size = note.getValue().length;
            o.number = count + 1L;
            o.block = -1;
            tree[n] = tree[n] == null ? new Obj[7] : tree[n];
            tree[n][at >= 0 ? at : empty] = o;
            changed[n] = true;
        }
        boolean any = false;
        for (int n = 0; n < 7; n++) {
            any |= changed[n];
        }
        return any ? writeAll(product, notes, tree, used, changed, together) : 0;
    }

    private int writeAll(int product, Map<String, byte[]> notes, Obj[][] tree, TreeSet<Integer> used,
            boolean[] changed, boolean together) {
        List<Integer> free = new ArrayList<>();
        for (int i = 0; i < 64; i++) {
            if (!used.contains(i)) {
                free.add(i);
            }
        }
        int needed = 0;
        boolean left = false;
        for (int n = 0; n < 7; n++) {
            boolean empty = tree[n] == null || Arrays.stream(tree[n]).allMatch(o -> o == null);
            // a NODE that was laid without OBJECTS: none for COMMIT, a place for a PUT or DELETE alone
            if (empty && (together || changed[n])) {
                tree[n] = null;
            }
            left |= tree[n] != null;
            needed += changed[n] && !empty ? 1 : 0;
        }
        needed += left ? 1 : 0;
        for (byte[] bytes : notes.values()) {
            needed += bytes == null ? 0 : 1 + (bytes.length + 255) / 256;
        }
        if (needed > free.size()) {
            return 4;
        }
        for (Map.Entry<String, byte[]> note : notes.entrySet()) {
            for (Obj o : note.getValue() == null ? new Obj[0] : tree[wayOf(product, note.getKey())]) {
                if (o != null && o.block < 0 && o.name.equals(note.getKey())) {
                    writeObject(o, note.getValue(), free);
                }
            }
        }
        byte[] top = new byte[256];
        byte[] before = root == 255 ? null : disk[root].clone();
        for (int n = 0; n < 7; n++) {
            top[33 * n] = (byte) 255;
            if (tree[n] != null && !changed[n]) {
                System.arraycopy(before, 33 * n, top, 33 * n, 33);
            } else if (tree[n] != null) {
                byte[] node = new byte[256];
                for (int i = 0; i < 7; i++) {
                    setPlace(node, 33 * i, tree[n][i] == null ? 255 : tree[n][i].block);
                }
                setPlace(top, 33 * n, write(free, node));
            }
        }
        int newRoot = left ? write(free, top) : 255;
        spend();
        count++;
        root = newRoot;
        seal = newRoot == 255 ? new byte[32] : sha(disk[newRoot]);
        return 0;
    }

    private void writeObject(Obj o, byte[] bytes, List<Integer> free) {
        byte[] object = new byte[256];
        object[0] = (byte) o.product;
        object[1] = (byte) o.name.length();
        System.arraycopy(raw(o.name), 0, object, 2, o.name.length());
        object[18] = (byte) (bytes.length / 256);
        object[19] = (byte) bytes.length;
        java.nio.ByteBuffer.wrap(object).putLong(20, o.number);
        for (int k = 0; 256 * k < bytes.length; k++) {
            byte[] part = Arrays.copyOfRange(bytes, 256 * k, 256 * k + 256);
            setPlace(object, 28 + 33 * k, write(free, secret(nonce(o.number, k), part)));
        }
        o.block = write(free, object);
    }

    private void setPlace(byte[] holder, int at, int block) {
        holder[at] = (byte) block;
        if (block != 255) {
            System.arraycopy(sha(disk[block]), 0, holder, at + 1, 32);
        }
    }

    private int write(List<Integer> free, byte[] bytes) {
        spend();
        int block = free.remove(0);
        old[block] = disk[block];
        disk[block] = bytes;
        return block;
    }

    private void spend() {
        if (power == 0) {
            throw new Off();
        }
        if (power > 0) {
            power--;
        }
    }

    // ---- ciphers

    static byte[] sha(byte[] bytes) {
        try {
            return MessageDigest.getInstance("SHA-256").digest(bytes);
        } catch (GeneralSecurityException e) {
            throw new IllegalStateException(e);
        }
    }

    static byte[] mac(byte[] with, byte[] bytes) {
        try {
            Mac mac = Mac.getInstance("HmacSHA256");
            // the library takes no empty key; a 0 behind a key shorter than 64 bytes changes nothing
            mac.init(new SecretKeySpec(with.length == 0 ? new byte[1] : with, "HmacSHA256"));
            return mac.doFinal(bytes);
        } catch (GeneralSecurityException e) {
            throw new IllegalStateException(e);
        }
    }

    private byte[] signingKey() {
        return mac(key, new byte[] {1});
    }

    private byte[] secret(byte[] nonce, byte[] bytes) {
        return chacha(key, nonce, bytes);
    }

    static byte[] chacha(byte[] with, byte[] nonce, byte[] bytes) {
        try {
            Cipher cipher = Cipher.getInstance("ChaCha20");
            cipher.init(Cipher.ENCRYPT_MODE, new SecretKeySpec(with, "ChaCha20"), new ChaCha20ParameterSpec(nonce, 0));
            return cipher.doFinal(bytes);
        } catch (GeneralSecurityException e) {
            throw new IllegalStateException(e);
        }
    }

    /** Null when the tag is not right. */
    private byte[] aead(boolean seals, App app, byte[] nonce, byte[] bytes) {
        try {
            Cipher cipher = Cipher.getInstance("ChaCha20-Poly1305");
            cipher.init(seals ? Cipher.ENCRYPT_MODE : Cipher.DECRYPT_MODE,
                    new SecretKeySpec(mac(key, app.entry().digest), "ChaCha20"), new IvParameterSpec(nonce));
            cipher.updateAAD(new byte[] {(byte) app.entry().product});
            return cipher.doFinal(bytes);
        } catch (javax.crypto.AEADBadTagException e) {
            return null;
        } catch (GeneralSecurityException e) {
            throw new IllegalStateException(e);
        }
    }
}
