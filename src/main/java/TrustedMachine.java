import java.util.Arrays;
import java.util.NoSuchElementException;

/**
 * A machine with two worlds: a normal one that loads, stores, edits the disk and asks by calls of a
 * monitor, and a trusted one with applets, sessions and objects that are kept on the normal world's
 * disk. The document DOC.md says what each call must do.
 */
public final class TrustedMachine {
    public static final int NONE = -1;

    private static final int WELL = 0;
    private static final int BAD = 1;
    private static final int DENIED = 2;
    private static final int MISSING = 3;
    private static final int FULL = 4;
    private static final int DEAD = 5;
    private static final int CORRUPT = 6;
    private static final int ABSENT = 7;
    private static final int BUSY = 8;
    private static final int YIELDS = 9;
    private static final int DOWN = -1;

    private static final int TAPE = 1100;
    private static final int ENTRIES = 8;
    private static final int SESSIONS = 16;

    private static final int GOING = 0;
    private static final int HALTED = 1;
    private static final int STOPPED = 2;

    private final Memory memory;
    private final Applet[] applets;
    private final Sha256 sha;
    private final Cipher cipher;
    private final Vault vault;
    private final Codes codes;
    private final Monitor monitor;
    private final byte[] tape;
    private int fed;
    private boolean booted;
    private final int[] registers;
    private int place;
    private int state;

    public TrustedMachine() {
        memory = new Memory();
        sha = new Sha256();
        cipher = new Cipher();
        vault = new Vault(sha, cipher);
        applets = new Applet[ENTRIES];
        for (int i = 0; i < ENTRIES; i++) {
            applets[i] = new Applet(i, memory);
        }
        Signer signer = new Signer(sha, cipher.key);
        codes = new Codes(applets, sha, cipher, vault, signer);
        monitor = new Monitor(memory, applets, sha, vault, signer, codes);
        tape = new byte[TAPE];
        registers = new int[16];
    }

    public boolean feed(int a, int b, int c, int d, int e) {
        if (fed > TAPE - 20) {
            return false;
        }
        Sha256.putWord(tape, fed, a);
        Sha256.putWord(tape, fed + 4, b);
        Sha256.putWord(tape, fed + 8, c);
        Sha256.putWord(tape, fed + 12, d);
        Sha256.putWord(tape, fed + 16, e);
        fed += 20;
        return true;
    }

    public boolean end(int n) {
        if (n < 0 || n > fed) {
            return false;
        }
        fed = n;
        return true;
    }

    public int burn(int rights) {
        if (booted || rights < 0 || rights > 7) {
            return NONE;
        }
        for (int i = 0; i < ENTRIES; i++) {
            if (applets[i].rights == NONE) {
                sha.digest(tape, 0, fed, 0, applets[i].digest, 0);
                applets[i].rights = rights;
                return i;
            }
        }
        return NONE;
    }

    public boolean key() {
        if (booted || fed < 32) {
            return false;
        }
        System.arraycopy(tape, 0, cipher.key, 0, 32);
        fed = 0;
        return true;
    }

    public boolean product(int entry, int product, int version) {
        if (booted || entry < 0 || entry >= ENTRIES || applets[entry].rights == NONE) {
            return false;
        }
        if (product < 0 || product > 7 || version < 0 || version > 9999) {
            return false;
        }
        applets[entry].product = product;
        applets[entry].version = version;
        return true;
    }

    public boolean boot() {
        if (!vault.down) {
            return false;
        }
        booted = true;
        vault.down = false;
        vault.power = NONE;
        memory.restart();
        monitor.restart();
        Arrays.fill(registers, 0);
        place = 0;
        state = GOING;
        return true;
    }

    public void power(int k) {
        vault.power = k < 0 ? NONE : k;
    }

    public boolean isDown() {
        return vault.down;
    }

    public int call(int number, int x, int y, int z) {
        boolean wasDown = vault.down;
        int code = monitor.ask(number, x, y, z);
        // the codes run from here, and not from within the monitor, so that few calls stand open at once
        if (code == Monitor.RUNS) {
            code = monitor.finish(codes.run(monitor.running, monitor.slice));
        }
        if (vault.down && !wasDown) {
            state = HALTED;
        }
        return code;
    }

    public int result(int i) throws IndexOutOfBoundsException {
        if (i < 0 || i > 3) {
            throw new IndexOutOfBoundsException("results are 0 to 3");
        }
        return monitor.results[i];
    }

    public int load(int at) {
        if (vault.down || !memory.normal(at, 1)) {
            return NONE;
        }
        return memory.bytes[at] & 255;
    }

    public boolean store(int at) {
        if (vault.down || !memory.normal(at, fed)) {
            return false;
        }
        memory.put(tape, fed, at);
        fed = 0;
        return true;
    }

    public boolean go(int place) {
        if (vault.down) {
            return false;
        }
        this.place = place;
        state = GOING;
        return true;
    }

    public int walk(int n) {
        if (n < 0 || n > 1000 || vault.down) {
            return 0;
        }
        int done = 0;
        for (int i = 0; i < n && state == GOING; i++) {
            if (!memory.normal(place, 4)) {
                state = STOPPED;
            } else if ((memory.bytes[place] & 255) == 20) {
                int number = (memory.bytes[place + 2] & 255) << 8 | memory.bytes[place + 3] & 255;
                int code = monitor.ask(number, registers[1], registers[2], registers[3]);
                if (code == Monitor.RUNS) {
                    code = monitor.finish(codes.run(monitor.running, monitor.slice));
                }
                registers[0] = code;
                System.arraycopy(monitor.results, 0, registers, 1, 4);
                place += 4;
                state = vault.down ? HALTED : GOING;
                done++;
            } else if (obey(memory.bytes[place] & 255, memory.bytes[place + 1] & 15)) {
                done++;
            }
        }
        return done;
    }

    public int register(int i) throws IndexOutOfBoundsException {
        if (i < 0 || i > 17) {
            throw new IndexOutOfBoundsException("registers are 0 to 17");
        }
        if (i < 16) {
            return registers[i];
        }
        return i == 16 ? place : state;
    }

    public int disk(int block, int k, int mask) throws NoSuchElementException {
        if (block < 0 || block >= Vault.BLOCKS || k < 0 || k > 255) {
            throw new NoSuchElementException("no such byte of the disk");
        }
        return vault.edit(block, k, mask);
    }

    public boolean replay(int block) {
        if (block < 0 || block >= Vault.BLOCKS) {
            return false;
        }
        vault.bringBack(block);
        return true;
    }

    /* One instruction other than MONITOR: whether it was done. One that stops leaves the place. */
    private boolean obey(int code, int d) {
        int a = memory.bytes[place + 2] & 255;
        int b = memory.bytes[place + 3] & 255;
        int i = a << 8 | b;
        if (code == 0) {
            state = HALTED;
            return true;
        }
        if (code > 20) {
            state = STOPPED;
            return false;
        }
        if (code >= 12 && code <= 15) {
            return reach(code, d, registers[a & 15] + b);
        }
        if (code >= 16) {
            jump(code, d, i << 16 >> 16);
            return true;
        }
        if (code == 1) {
            registers[d] = i;
        } else if (code == 2) {
            registers[d] = i << 16 | registers[d] & 0xffff;
        } else {
            registers[d] = Codes.worked(code + 2, registers[a & 15], registers[b & 15]);
        }
        place += 4;
        return true;
    }

    private boolean reach(int code, int d, int at) {
        boolean word = code >= 14;
        if (!memory.normal(at, word ? 4 : 1)) {
            state = STOPPED;
            return false;
        }
        if (code == 12) {
            registers[d] = memory.bytes[at] & 255;
        } else if (code == 13) {
            memory.bytes[at] = (byte) registers[d];
        } else if (code == 14) {
            registers[d] = memory.word(at);
        } else {
            memory.putWord(at, registers[d]);
        }
        place += 4;
        return true;
    }

    private void jump(int code, int d, int j) {
        int behind = place + 4;
        if (code == 19) {
            place = registers[d];
            return;
        }
        boolean taken = code != 17 || registers[d] == 0;
        if (code == 18) {
            registers[d] = behind;
        }
        place = taken ? behind + 4 * j : behind;
    }

    /** The 8192 bytes and what each of their 32 pages is. */
    static final class Memory {
        static final int SIZE = 8192;
        static final int PAGES = 32;
        static final int NORMAL = 0;
        static final int FREE = 1;
        static final int TAKEN = 2;
        static final int FOR_GOOD = 3;

        final byte[] bytes = new byte[SIZE];
        final int[] pages = new int[PAGES];

        void restart() {
            Arrays.fill(bytes, (byte) 0);
            for (int i = 0; i < PAGES; i++) {
                pages[i] = i < 24 ? NORMAL : FOR_GOOD;
            }
        }

        /* No bytes at all are normal at any place that is not below 0. */
        boolean normal(int at, int n) {
            if (at < 0 || n < 0) {
                return false;
            }
            if (n == 0) {
                return true;
            }
            if (n > SIZE || at > SIZE - n) {
                return false;
            }
            int last = at + n - 1 >> 8;
            for (int page = at >> 8; page <= last; page++) {
                if (pages[page] != NORMAL) {
                    return false;
                }
            }
            return true;
        }

        /* An empty row may lie beyond the bytes, where even a copy of nothing would throw. */
        void put(byte[] from, int n, int at) {
            if (n > 0) {
                System.arraycopy(from, 0, bytes, at, n);
            }
        }

        int word(int at) {
            return bytes[at] & 255 | (bytes[at + 1] & 255) << 8 | (bytes[at + 2] & 255) << 16
                    | (bytes[at + 3] & 255) << 24;
        }

        void putWord(int at, int value) {
            bytes[at] = (byte) value;
            bytes[at + 1] = (byte) (value >>> 8);
            bytes[at + 2] = (byte) (value >>> 16);
            bytes[at + 3] = (byte) (value >>> 24);
        }

        int countFree() {
            int free = 0;
            for (int i = 0; i < PAGES; i++) {
                if (pages[i] == FREE) {
                    free++;
                }
            }
            return free;
        }

        int takeLowestFree() {
            for (int i = 0; i < PAGES; i++) {
                if (pages[i] == FREE) {
                    pages[i] = TAKEN;
                    return i;
                }
            }
            return NONE;
        }

        void makeFree(int page) {
            pages[page] = FREE;
            Arrays.fill(bytes, 256 * page, 256 * page + 256, (byte) 0);
        }
    }

    /** An ENTRY of ROM, the applet that it lets in, and the applet's run: it has one at most. */
    static final class Applet {
        final int number;
        final Memory memory;
        final byte[] digest = new byte[32];
        int rights = NONE;
        int product;
        int version;
        boolean in;
        final int[] pages = new int[8];
        int pageCount;
        final byte[] code = new byte[1024];
        int codeLength;
        final int[] beginnings = new int[8];
        int commands;
        int session = NONE;
        final int[] stack = new int[64];
        int depth;
        final int[] returns = new int[16];
        int returnCount;
        int place;
        final Notes notes = new Notes();

        Applet(int number, Memory memory) {
            this.number = number;
            this.memory = memory;
            product = number;
        }

        boolean is(byte[] other) {
            for (int i = 0; i < 32; i++) {
                if (digest[i] != other[i]) {
                    return false;
                }
            }
            return rights != NONE;
        }

        /* Whether the n bytes of MEMORY are of an IMAGE's form; the tables are read on the way. */
        boolean reads(int at, int n) {
            if (n < 5) {
                return false;
            }
            byte[] image = memory.bytes;
            pageCount = image[at] & 255;
            commands = image[at + 1] & 255;
            codeLength = n - 2 - 2 * commands;
            if (pageCount < 1 || pageCount > 4 || commands < 1 || commands > 8 || codeLength < 1) {
                return false;
            }
            for (int i = 0; i < commands; i++) {
                int told = at + 2 + 2 * i;
                beginnings[i] = (image[told] & 255) << 8 | image[told + 1] & 255;
                if (beginnings[i] >= codeLength) {
                    return false;
                }
            }
            System.arraycopy(image, at + 2 + 2 * commands, code, 0, codeLength);
            return true;
        }

        void comeIn() {
            for (int i = 0; i < pageCount; i++) {
                pages[i] = memory.takeLowestFree();
            }
            in = true;
            session = NONE;
        }

        void goOut() {
            for (int i = 0; i < pageCount; i++) {
                memory.makeFree(pages[i]);
            }
            in = false;
        }

        boolean grow() {
            if (pageCount >= 8) {
                return false;
            }
            int page = memory.takeLowestFree();
            if (page == NONE) {
                return false;
            }
            pages[pageCount] = page;
            pageCount++;
            return true;
        }

        void begin(int command, int forSession) {
            session = forSession;
            depth = 0;
            returnCount = 0;
            place = beginnings[command];
        }

        boolean within(int a, int n) {
            return a >= 0 && n >= 0 && a <= 256 * pageCount - n;
        }

        int spot(int a) {
            return pages[a >> 8] << 8 | a & 255;
        }

        void take(int a, int n, byte[] to) {
            int done = 0;
            while (done < n) {
                int part = Math.min(n - done, 256 - (a + done & 255));
                System.arraycopy(memory.bytes, spot(a + done), to, done, part);
                done += part;
            }
        }

        void give(byte[] from, int n, int a) {
            int done = 0;
            while (done < n) {
                int part = Math.min(n - done, 256 - (a + done & 255));
                System.arraycopy(from, done, memory.bytes, spot(a + done), part);
                done += part;
            }
        }

        void push(int value) {
            stack[depth] = value;
            depth++;
        }
    }

    /** What a transaction has noted: names with new bytes, or with none for a DELETE. */
    static final class Notes {
        static final int MOST = 4;

        int count;
        final byte[][] names = new byte[MOST][16];
        final int[] lengths = new int[MOST];
        final int[] sizes = new int[MOST];
        final byte[][] bytes = new byte[MOST][512];

        int indexOf(byte[] name, int length) {
            for (int j = 0; j < count; j++) {
                if (lengths[j] == length && sameName(names[j], name)) {
                    return j;
                }
            }
            return NONE;
        }

        /* The note's number, or NONE if there would be too many; a known name keeps its number. */
        int note(byte[] name, int length, int size) {
            int j = indexOf(name, length);
            if (j == NONE) {
                if (count >= MOST) {
                    return NONE;
                }
                j = count;
                count++;
            }
            System.arraycopy(name, 0, names[j], 0, 16);
            lengths[j] = length;
            sizes[j] = size;
            return j;
        }

        private static boolean sameName(byte[] one, byte[] other) {
            for (int i = 0; i < 16; i++) {
                if (one[i] != other[i]) {
                    return false;
                }
            }
            return true;
        }
    }

    /** A session: its applet, the parameters of its run, and the chain of applets that run for it. */
    static final class Session {
        static final int MOST_RUNNING = 4;

        final int number;
        final Applet[] applets;
        boolean open;
        int owner;
        boolean cancelled;
        final int[] chain = new int[MOST_RUNNING];
        int running;
        int steps;
        int keeper = NONE;
        int told;
        final int[] sorts = new int[4];
        final int[] firsts = new int[4];
        final int[] seconds = new int[4];
        final byte[][] bytes = new byte[4][256];

        Session(int number, Applet[] applets) {
            this.number = number;
            this.applets = applets;
        }

        void openFor(int applet) {
            open = true;
            owner = applet;
            cancelled = false;
        }

        void close() {
            endRun();
            open = false;
        }

        void enter(Applet applet, int command) {
            applet.begin(command, number);
            chain[running] = applet.number;
            running++;
        }

        /* A transaction ends with the run of the applet that began it. */
        void leave() {
            running--;
            Applet applet = applets[chain[running]];
            applet.session = NONE;
            if (keeper == applet.number) {
                keeper = NONE;
            }
        }

        void endRun() {
            for (int i = running; i > 0; i--) {
                leave();
            }
        }

        boolean takeParameters(Memory memory, int from) {
            told = from;
            for (int i = 0; i < 4; i++) {
                int sort = memory.word(from + 12 * i);
                int a = memory.word(from + 12 * i + 4);
                int b = memory.word(from + 12 * i + 8);
                if (sort < 0 || sort > 6) {
                    return false;
                }
                if (sort >= 4 && b != 0 && (b < 0 || b > 256 || !memory.normal(a, b))) {
                    return false;
                }
                sorts[i] = sort;
                firsts[i] = sort == 2 ? 0 : a;
                seconds[i] = sort == 2 ? 0 : b;
                Arrays.fill(bytes[i], (byte) 0);
                if ((sort == 4 || sort == 6) && b > 0) {
                    System.arraycopy(memory.bytes, a, bytes[i], 0, b);
                }
            }
            return true;
        }

        boolean canGoOut(Memory memory) {
            for (int i = 0; i < 4; i++) {
                int sort = sorts[i];
                if ((sort == 2 || sort == 3) && !memory.normal(told + 12 * i + 4, 8)) {
                    return false;
                }
                if (sort >= 5 && seconds[i] > 0 && !memory.normal(firsts[i], seconds[i])) {
                    return false;
                }
            }
            return true;
        }

        void goOut(Memory memory) {
            for (int i = 0; i < 4; i++) {
                int sort = sorts[i];
                if (sort == 2 || sort == 3) {
                    memory.putWord(told + 12 * i + 4, firsts[i]);
                    memory.putWord(told + 12 * i + 8, seconds[i]);
                } else if (sort >= 5) {
                    memory.put(bytes[i], seconds[i], firsts[i]);
                }
            }
        }
    }

    /** The DISK, the CELL and the power, and the tree of objects that they keep. */
    static final class Vault {
        static final int BLOCKS = 64;
        static final int EMPTY = 255;
        static final int WAYS = 7;
        static final int PLACE = 33;
        static final int NODE = 1;
        static final int OBJECT = 2;
        static final int DATA = 3;
        /* In nodes: this NODE is to be written anew. */
        static final int RENEWED = -1;

        final Sha256 sha;
        final Cipher cipher;
        final byte[][] disk = new byte[BLOCKS][256];
        final byte[][] before = new byte[BLOCKS][256];
        /* Of each block as it is now: they are looked at more often than blocks change. */
        final byte[][] digests = new byte[BLOCKS][32];
        /* The form that a block was last found to have, 0 for none: it is looked at once only. */
        final int[] forms = new int[BLOCKS];
        int count;
        int root = EMPTY;
        final byte[] seal = new byte[32];
        final int[] least = new int[8];
        int power = NONE;
        boolean down = true;
        final int[] used = new int[BLOCKS];
        final int[] nodes = new int[WAYS];
        final int[] slots = new int[WAYS * WAYS];
        final int[] fresh = new int[Notes.MOST];
        final byte[] page = new byte[256];
        int latest;
        int found;
        boolean room;

        Vault(Sha256 sha, Cipher cipher) {
            this.sha = sha;
            this.cipher = cipher;
            byte[] blank = new byte[32];
            sha.digest(new byte[256], 0, 256, 0, blank, 0);
            for (int i = 0; i < BLOCKS; i++) {
                System.arraycopy(blank, 0, digests[i], 0, 32);
            }
        }

        int edit(int block, int k, int mask) {
            if ((mask & 255) != 0) {
                disk[block][k] ^= (byte) mask;
                changed(block);
            }
            return disk[block][k] & 255;
        }

        void bringBack(int block) {
            System.arraycopy(before[block], 0, disk[block], 0, 256);
            changed(block);
        }

        private void changed(int block) {
            sha.digest(disk[block], 0, 256, 0, digests[block], 0);
            forms[block] = 0;
        }

        private boolean spend() {
            if (power == 0) {
                down = true;
                return false;
            }
            if (power > 0) {
                power--;
            }
            return true;
        }

        boolean raise(int product, int version) {
            if (!spend()) {
                return false;
            }
            count++;
            least[product] = version;
            return true;
        }

        /* Writes the page to the next free block, which is the latest then. */
        private boolean put() {
            latest++;
            while (latest < BLOCKS && used[latest] != 0) {
                latest++;
            }
            if (latest >= BLOCKS || !spend()) {
                return false;
            }
            System.arraycopy(disk[latest], 0, before[latest], 0, 256);
            System.arraycopy(page, 0, disk[latest], 0, 256);
            sha.digest(disk[latest], 0, 256, 0, digests[latest], 0);
            forms[latest] = 0;
            return true;
        }

        private boolean putCell(int newRoot) {
            if (!spend()) {
                return false;
            }
            count++;
            root = newRoot;
            Arrays.fill(seal, (byte) 0);
            if (newRoot != EMPTY) {
                System.arraycopy(digests[newRoot], 0, seal, 0, 32);
            }
            return true;
        }

        private boolean whole(int block, byte[] told, int at, int form) {
            if (block >= BLOCKS) {
                return false;
            }
            byte[] digest = digests[block];
            for (int i = 0; i < 32; i++) {
                if (digest[i] != told[at + i]) {
                    return false;
                }
            }
            if (form == DATA || forms[block] == form) {
                return true;
            }
            if (form == NODE ? !isNode(disk[block]) : !isObject(disk[block])) {
                return false;
            }
            forms[block] = form;
            return true;
        }

        private static boolean isNode(byte[] block) {
            int rest = 0;
            for (int i = 0; i < WAYS; i++) {
                boolean none = (block[PLACE * i] & 255) == EMPTY;
                for (int k = 1; none && k < PLACE; k++) {
                    rest |= block[PLACE * i + k];
                }
            }
            for (int i = PLACE * WAYS; i < 256; i++) {
                rest |= block[i];
            }
            return rest == 0;
        }

        private static boolean isObject(byte[] block) {
            int length = block[1];
            int size = (block[18] & 255) << 8 | block[19] & 255;
            if ((block[0] & 255) > 7 || length < 1 || length > 16 || size > 512) {
                return false;
            }
            int rest = 0;
            for (int i = 2 + length; i < 18; i++) {
                rest |= block[i];
            }
            for (int i = 28 + PLACE * (size + 255 >> 8); i < 256; i++) {
                rest |= block[i];
            }
            return rest == 0;
        }

        static int sizeOf(byte[] object) {
            return (object[18] & 255) << 8 | object[19] & 255;
        }

        static int parts(int size) {
            return size + 255 >> 8;
        }

        private static int way(int product, byte[] name, int length) {
            int sum = product;
            for (int i = 0; i < length; i++) {
                sum += name[i] & 255;
            }
            return sum % WAYS;
        }

        private static boolean named(byte[] object, int product, byte[] name, int length) {
            if (object[0] != product || object[1] != length) {
                return false;
            }
            for (int i = 0; i < length; i++) {
                if (object[2 + i] != name[i]) {
                    return false;
                }
            }
            return true;
        }

        /* The way down: the object's block is found, or there is room for it in its NODE or not. */
        int find(int product, byte[] name, int length) {
            room = true;
            if (root == EMPTY) {
                return ABSENT;
            }
            if (!whole(root, seal, 0, NODE)) {
                return CORRUPT;
            }
            int at = PLACE * way(product, name, length);
            int node = disk[root][at] & 255;
            if (node == EMPTY) {
                return ABSENT;
            }
            if (!whole(node, disk[root], at + 1, NODE)) {
                return CORRUPT;
            }
            room = false;
            for (int k = 0; k < WAYS; k++) {
                int block = disk[node][PLACE * k] & 255;
                if (block == EMPTY) {
                    room = true;
                } else if (!whole(block, disk[node], PLACE * k + 1, OBJECT)) {
                    return CORRUPT;
                } else if (named(disk[block], product, name, length)) {
                    found = block;
                    return WELL;
                }
            }
            return ABSENT;
        }

        /* The object number i of a product, in the order of the tree. */
        int list(int product, int i) {
            if (root == EMPTY) {
                return ABSENT;
            }
            if (!whole(root, seal, 0, NODE)) {
                return CORRUPT;
            }
            int left = i;
            for (int n = 0; n < WAYS; n++) {
                int node = disk[root][PLACE * n] & 255;
                if (node != EMPTY && !whole(node, disk[root], PLACE * n + 1, NODE)) {
                    return CORRUPT;
                }
                for (int k = 0; node != EMPTY && k < WAYS; k++) {
                    int block = disk[node][PLACE * k] & 255;
                    if (block == EMPTY) {
                        continue;
                    }
                    if (!whole(block, disk[node], PLACE * k + 1, OBJECT)) {
                        return CORRUPT;
                    }
                    if (disk[block][0] == product) {
                        if (left == 0) {
                            found = block;
                            return WELL;
                        }
                        left--;
                    }
                }
            }
            return ABSENT;
        }

        /* The bytes of the object that was found; to has 512. */
        int read(byte[] to) {
            byte[] object = disk[found];
            int parts = parts(sizeOf(object));
            for (int k = 0; k < parts; k++) {
                if (!whole(object[28 + PLACE * k] & 255, object, 29 + PLACE * k, DATA)) {
                    return CORRUPT;
                }
            }
            for (int k = 0; k < parts; k++) {
                System.arraycopy(disk[object[28 + PLACE * k]], 0, to, 256 * k, 256);
                setNonce(Sha256.word(object, 20), Sha256.word(object, 24), k);
                cipher.stream(cipher.key, 0, to, 256 * k, 256);
            }
            return WELL;
        }

        /* Of a NUMBER of eight bytes: an object on the disk may have any. */
        private void setNonce(int higher, int lower, int part) {
            Sha256.putWord(cipher.nonce, 0, higher);
            Sha256.putWord(cipher.nonce, 4, lower);
            Sha256.putWord(cipher.nonce, 8, part);
        }

        /* Looks at the whole tree: its NODES, its OBJECTS by their places, and the blocks in use. */
        boolean look() {
            Arrays.fill(used, 0);
            Arrays.fill(nodes, EMPTY);
            Arrays.fill(slots, EMPTY);
            if (root == EMPTY) {
                return true;
            }
            if (!whole(root, seal, 0, NODE)) {
                return false;
            }
            used[root] = 1;
            for (int n = 0; n < WAYS; n++) {
                int node = disk[root][PLACE * n] & 255;
                nodes[n] = node;
                if (node != EMPTY && !(whole(node, disk[root], PLACE * n + 1, NODE) && lookAtNode(n, node))) {
                    return false;
                }
            }
            return true;
        }

        private boolean lookAtNode(int n, int node) {
            used[node] = 1;
            for (int k = 0; k < WAYS; k++) {
                int block = disk[node][PLACE * k] & 255;
                slots[WAYS * n + k] = block;
                if (block == EMPTY) {
                    continue;
                }
                if (!whole(block, disk[node], PLACE * k + 1, OBJECT)) {
                    return false;
                }
                used[block] = 1;
                int parts = parts(sizeOf(disk[block]));
                for (int part = 0; part < parts; part++) {
                    int data = disk[block][28 + PLACE * part] & 255;
                    if (!whole(data, disk[block], 29 + PLACE * part, DATA)) {
                        return false;
                    }
                    used[data] = 1;
                }
            }
            return true;
        }

        int countUsed() {
            int sum = 0;
            for (int i = 0; i < BLOCKS; i++) {
                sum += used[i];
            }
            return sum;
        }

        int countObjects(int product) {
            int sum = 0;
            for (int i = 0; i < slots.length; i++) {
                if (slots[i] < BLOCKS && (product == NONE || disk[slots[i]][0] == product)) {
                    sum++;
                }
            }
            return sum;
        }

        /*
         * What the notes make of the tree that was looked at: a slot of 64 + j is note j's object. How many
         * blocks their DATA and OBJECTS need, or NONE when a NODE has no place.
         */
        private int plan(Notes notes, int product) {
            int needed = 0;
            for (int j = 0; j < notes.count; j++) {
                boolean putting = notes.sizes[j] != NONE;
                int n = way(product, notes.names[j], notes.lengths[j]);
                int slot = slotOf(n, product, notes.names[j], notes.lengths[j]);
                if (slot == NONE && putting) {
                    slot = emptySlot(n);
                    if (slot == NONE) {
                        return NONE;
                    }
                }
                if (slot != NONE) {
                    slots[slot] = putting ? BLOCKS + j : EMPTY;
                    nodes[n] = RENEWED;
                    needed += putting ? 1 + parts(notes.sizes[j]) : 0;
                }
            }
            return needed;
        }

        private int slotOf(int n, int product, byte[] name, int length) {
            for (int i = WAYS * n; i < WAYS * n + WAYS; i++) {
                if (slots[i] < BLOCKS && named(disk[slots[i]], product, name, length)) {
                    return i;
                }
            }
            return NONE;
        }

        private int emptySlot(int n) {
            for (int i = WAYS * n; i < WAYS * n + WAYS; i++) {
                if (slots[i] == EMPTY) {
                    return i;
                }
            }
            return NONE;
        }

        private boolean hasObjects(int n) {
            for (int i = WAYS * n; i < WAYS * n + WAYS; i++) {
                if (slots[i] != EMPTY) {
                    return true;
                }
            }
            return false;
        }

        /* A NODE may have come to the disk without an OBJECT: for a COMMIT it is none. */
        private void dropEmptyNodes() {
            for (int n = 0; n < WAYS; n++) {
                if (nodes[n] != RENEWED && !hasObjects(n)) {
                    nodes[n] = EMPTY;
                }
            }
        }

        /* Whether the ROOT is to have a NODE there. */
        private boolean isNamed(int n) {
            return nodes[n] == RENEWED ? hasObjects(n) : nodes[n] != EMPTY;
        }

        /* How many blocks writeTree takes for the changed NODES and the ROOT. */
        private int countRenewed() {
            int renewed = 0;
            boolean changes = false;
            boolean any = false;
            for (int n = 0; n < WAYS; n++) {
                boolean named = isNamed(n);
                any |= named;
                if (nodes[n] == RENEWED) {
                    changes = true;
                    renewed += named ? 1 : 0;
                }
            }
            return changes && any ? renewed + 1 : 0;
        }

        /* All that is noted, done at once: WELL, FULL or CORRUPT, or DOWN when the power ends on the way. */
        int commit(Notes notes, int product, boolean together) {
            if (!look()) {
                return CORRUPT;
            }
            int needed = plan(notes, product);
            if (needed == NONE) {
                return FULL;
            }
            if (together) {
                dropEmptyNodes();
            }
            if (needed + countRenewed() > BLOCKS - countUsed()) {
                return FULL;
            }
            return writeObjects(notes, product) && writeTree() ? WELL : DOWN;
        }

        private boolean writeObjects(Notes notes, int product) {
            latest = NONE;
            for (int j = 0; j < notes.count; j++) {
                int size = notes.sizes[j];
                if (size == NONE) {
                    continue;
                }
                int first = NONE;
                int parts = parts(size);
                for (int k = 0; k < parts; k++) {
                    fillData(notes.bytes[j], size, k);
                    if (!put()) {
                        return false;
                    }
                    first = k == 0 ? latest : first;
                }
                fillObject(notes, j, product, first);
                if (!put()) {
                    return false;
                }
                fresh[j] = latest;
            }
            return true;
        }

        /* The changed NODES, the ROOT and the CELL; nothing at all if no NODE has changed. */
        private boolean writeTree() {
            boolean changes = false;
            for (int n = 0; n < WAYS; n++) {
                if (nodes[n] == RENEWED) {
                    changes = true;
                    nodes[n] = EMPTY;
                    if (hasObjects(n)) {
                        fillNode(n);
                        if (!put()) {
                            return false;
                        }
                        nodes[n] = latest;
                    }
                }
            }
            if (!changes) {
                return true;
            }
            if (!fillRoot()) {
                return putCell(EMPTY);
            }
            return put() && putCell(latest);
        }

        private void fillData(byte[] bytes, int size, int part) {
            Arrays.fill(page, (byte) 0);
            System.arraycopy(bytes, 256 * part, page, 0, Math.min(256, size - 256 * part));
            setNonce(0, count + 1, part);
            cipher.stream(cipher.key, 0, page, 0, 256);
        }

        /* The second DATA block is the latest one, when there are two. */
        private void fillObject(Notes notes, int j, int product, int first) {
            int size = notes.sizes[j];
            Arrays.fill(page, (byte) 0);
            page[0] = (byte) product;
            page[1] = (byte) notes.lengths[j];
            System.arraycopy(notes.names[j], 0, page, 2, 16);
            page[18] = (byte) (size >> 8);
            page[19] = (byte) size;
            Sha256.putWord(page, 24, count + 1);
            if (size > 0) {
                setPlace(28, first);
            }
            if (size > 256) {
                setPlace(28 + PLACE, latest);
            }
        }

        private void fillNode(int n) {
            Arrays.fill(page, (byte) 0);
            for (int k = 0; k < WAYS; k++) {
                int slot = slots[WAYS * n + k];
                boolean isFresh = slot >= BLOCKS && slot < BLOCKS + Notes.MOST;
                setPlace(PLACE * k, isFresh ? fresh[slot - BLOCKS] : slot);
            }
        }

        /* Whether the ROOT has any NODE. */
        private boolean fillRoot() {
            boolean any = false;
            Arrays.fill(page, (byte) 0);
            for (int n = 0; n < WAYS; n++) {
                setPlace(PLACE * n, nodes[n]);
                any |= nodes[n] != EMPTY;
            }
            return any;
        }

        private void setPlace(int at, int block) {
            page[at] = (byte) block;
            if (block >= 0 && block < BLOCKS) {
                System.arraycopy(digests[block], 0, page, at + 1, 32);
            }
        }
    }

    /** The calls of the monitor, but for the run of codes that INVOKE and RESUME lead to. */
    static final class Monitor {
        /* Answered by ask when the session that was asked for is to run. */
        static final int RUNS = 100;

        final Memory memory;
        final Applet[] applets;
        final Sha256 sha;
        final Vault vault;
        final Codes codes;
        final Signer signer;
        final Session[] sessions = new Session[SESSIONS];
        final int[] results = new int[4];
        final byte[] buffer = new byte[128];
        Session running;
        int slice;

        Monitor(Memory memory, Applet[] applets, Sha256 sha, Vault vault, Signer signer, Codes codes) {
            this.memory = memory;
            this.applets = applets;
            this.sha = sha;
            this.vault = vault;
            this.signer = signer;
            this.codes = codes;
            for (int i = 0; i < SESSIONS; i++) {
                sessions[i] = new Session(i, applets);
            }
            running = sessions[0];
        }

        void restart() {
            for (int i = 0; i < SESSIONS; i++) {
                sessions[i].close();
            }
            for (int i = 0; i < ENTRIES; i++) {
                applets[i].in = false;
            }
            slice = 0;
            codes.makes = 0;
        }

        int ask(int number, int x, int y, int z) {
            Arrays.fill(results, 0);
            if (vault.down) {
                return DOWN;
            }
            switch (number) {
                case 0: return tell(1);
                case 1: return protect(x);
                case 2: return release(x);
                case 3: return bringIn(x, y);
                case 4: return unload(x);
                case 5: return openSession(x);
                case 6: return closeSession(x);
                case 7: return invoke(x, y, z);
                case 8: return cancel(x);
                case 9: return hash(x, y, z);
                case 10: return kept(x);
                case 11: return tell(vault.count);
                case 12: return setSlice(x);
                case 13: return resume(x);
                case 14: return raise(x);
                case 15: return publish(x);
                case 16: return prove(x, y, z);
                default: return BAD;
            }
        }

        private int tell(int value) {
            results[0] = value;
            return WELL;
        }

        private int protect(int x) {
            if (x < 8 || x > 23) {
                return BAD;
            }
            if (memory.pages[x] != Memory.NORMAL) {
                return BUSY;
            }
            memory.makeFree(x);
            return WELL;
        }

        private int release(int x) {
            if (x < 8 || x > 23) {
                return BAD;
            }
            if (memory.pages[x] == Memory.NORMAL) {
                return MISSING;
            }
            if (memory.pages[x] != Memory.FREE) {
                return BUSY;
            }
            memory.pages[x] = Memory.NORMAL;
            return WELL;
        }

        private int bringIn(int at, int n) {
            if (n < 1 || n > 1024 || !memory.normal(at, n)) {
                return BAD;
            }
            sha.digest(memory.bytes, at, n, 0, buffer, 0);
            int entry = entryOf(buffer);
            if (entry == NONE || applets[entry].version < vault.least[applets[entry].product]) {
                return DENIED;
            }
            Applet applet = applets[entry];
            if (productIsIn(applet.product)) {
                return BUSY;
            }
            if (!applet.reads(at, n)) {
                return BAD;
            }
            if (memory.countFree() < applet.pageCount) {
                return FULL;
            }
            applet.comeIn();
            return tell(entry);
        }

        private int entryOf(byte[] digest) {
            for (int i = 0; i < ENTRIES; i++) {
                if (applets[i].is(digest)) {
                    return i;
                }
            }
            return NONE;
        }

        private boolean productIsIn(int product) {
            for (int i = 0; i < ENTRIES; i++) {
                if (applets[i].in && applets[i].product == product) {
                    return true;
                }
            }
            return false;
        }

        private boolean isIn(int x) {
            return x >= 0 && x < ENTRIES && applets[x].in;
        }

        private boolean isOpen(int x) {
            return x >= 0 && x < SESSIONS && sessions[x].open;
        }

        private int unload(int x) {
            if (!isIn(x)) {
                return MISSING;
            }
            int session = applets[x].session;
            if (session != NONE && sessions[session].owner != x) {
                return BUSY;
            }
            for (int i = 0; i < SESSIONS; i++) {
                if (sessions[i].open && sessions[i].owner == x) {
                    sessions[i].close();
                }
            }
            applets[x].goOut();
            return WELL;
        }

        private int openSession(int x) {
            if (!isIn(x)) {
                return MISSING;
            }
            for (int i = 0; i < SESSIONS; i++) {
                if (!sessions[i].open) {
                    sessions[i].openFor(x);
                    return tell(i);
                }
            }
            return FULL;
        }

        private int closeSession(int x) {
            if (!isOpen(x)) {
                return MISSING;
            }
            sessions[x].close();
            return WELL;
        }

        private int invoke(int x, int y, int z) {
            if (!isOpen(x)) {
                return MISSING;
            }
            Session session = sessions[x];
            if (session.running > 0) {
                return BUSY;
            }
            Applet applet = applets[session.owner];
            if (y < 0 || y >= applet.commands) {
                return BAD;
            }
            if (applet.session != NONE) {
                return BUSY;
            }
            if (!memory.normal(z, 48) || !session.takeParameters(memory, z)) {
                return BAD;
            }
            session.steps = 0;
            session.enter(applet, y);
            running = session;
            return RUNS;
        }

        private int resume(int x) {
            if (!isOpen(x)) {
                return MISSING;
            }
            if (sessions[x].running == 0) {
                return BAD;
            }
            running = sessions[x];
            return RUNS;
        }

        /* What the call answers when the run that ask has told of came to a code. */
        int finish(int code) {
            if (code == YIELDS || code == DOWN) {
                return code;
            }
            if (code == DEAD) {
                running.close();
                results[0] = codes.told;
                return DEAD;
            }
            if (!running.canGoOut(memory)) {
                return DENIED;
            }
            running.goOut(memory);
            return tell(codes.told);
        }

        private int cancel(int x) {
            if (!isOpen(x)) {
                return MISSING;
            }
            sessions[x].cancelled = true;
            return WELL;
        }

        private int hash(int x, int y, int z) {
            if (y < 0 || y > 1024 || !memory.normal(x, y) || !memory.normal(z, 32)) {
                return BAD;
            }
            sha.digest(memory.bytes, x, y, 0, memory.bytes, z);
            return WELL;
        }

        private int kept(int x) {
            if (x < 0 || x > 7) {
                return BAD;
            }
            if (!vault.look()) {
                return CORRUPT;
            }
            results[0] = vault.countObjects(x);
            results[1] = vault.countObjects(NONE);
            results[2] = vault.countUsed();
            return WELL;
        }

        private int setSlice(int x) {
            if (x < 0 || x > 20000) {
                return BAD;
            }
            slice = x;
            return WELL;
        }

        private int raise(int x) {
            if (!isIn(x)) {
                return MISSING;
            }
            Applet applet = applets[x];
            if (applet.version <= vault.least[applet.product]) {
                return BAD;
            }
            return vault.raise(applet.product, applet.version) ? WELL : DOWN;
        }

        private int publish(int x) {
            if (!memory.normal(x, 32)) {
                return BAD;
            }
            signer.prepare();
            memory.put(signer.open, 32, x);
            return WELL;
        }

        private int prove(int x, int y, int z) {
            if (!isIn(x)) {
                return MISSING;
            }
            if (!memory.normal(y, 32) || !memory.normal(z, 64)) {
                return BAD;
            }
            int open = 0;
            for (int i = 0; i < SESSIONS; i++) {
                if (sessions[i].open && sessions[i].owner == x) {
                    open++;
                }
            }
            System.arraycopy(applets[x].digest, 0, buffer, 0, 32);
            System.arraycopy(memory.bytes, y, buffer, 32, 32);
            Sha256.putWord(buffer, 64, applets[x].version);
            Sha256.putWord(buffer, 68, vault.count);
            Sha256.putWord(buffer, 72, open);
            signer.prepare();
            signer.sign(buffer, 76);
            memory.put(signer.signature, 64, z);
            return WELL;
        }
    }

    /** The machine of codes: runs the applets of one session until they end, fault or yield. */
    static final class Codes {
        static final int MOST_STEPS = 20000;
        /* Each round takes a STEP, or ends a run that was begun by one. */
        static final int MOST_ROUNDS = 3 * MOST_STEPS;
        static final int SYS = 23;
        /* With this bit turned over, words without sign are ordered as those with one. */
        static final int SIGN = 0x80000000;

        /* What becomes of a run by a code: it goes on, has a fault 1 .. 8, ends, or is DOWN. */
        static final int ON = 0;
        static final int ENDED = 9;

        static final int STRANGE = 1;
        static final int TOO_FEW = 2;
        static final int TOO_MANY = 3;
        static final int BEYOND = 4;
        static final int RETURNS = 5;
        static final int TOO_LONG = 6;
        static final int REFUSED = 7;
        static final int PANIC = 8;

        /* For the codes 0 .. 22 and then SYS 0 .. 32: words taken, words given, and who does it. */
        private static final int[] TAKES = {
            0, 0, 1, 1, 2, 2, 2, 2, 2, 2, 2, 2, 2, 2, 2, 0, 1, 0, 0, 1, 2, 1, 2,
            1, 1, 1, 2, 2, 1, 2, 3, 4, 4, 2, 2, 0, 3, 0, 2, 0, 0, 2, 0, 5, 3, 3, 3, 4, 1, 2, 0, 0, 0, 0, 3, 3
        };
        private static final int[] GIVES = {
            0, 1, 2, 0, 2, 1, 1, 1, 1, 1, 1, 1, 1, 1, 1, 0, 0, 0, 0, 1, 0, 1, 0,
            1, 1, 1, 0, 0, 1, 1, 0, 1, 2, 1, 2, 1, 0, 1, 0, 0, 1, 2, 1, 0, 0, 1, 0, 1, 0, 2, 1, 1, 1, 1, 0, 0
        };
        private static final int[] GROUPS = {
            0, 0, 0, 0, 0, 0, 0, 0, 0, 0, 0, 0, 0, 0, 0, 1, 1, 1, 1, 2, 2, 2, 2,
            3, 3, 3, 3, 3, 3, 3, 3, 4, 5, 4, 5, 9, 6, 9, 7, 9, 9, 9, 9, 6, 7, 7, 8, 11, 8, 5, 10, 10, 10, 9, 8, 6
        };
        /* Bytes that are told with the codes 0 .. 23. */
        private static final int[] TOLD = {
            0, 4, 0, 0, 0, 0, 0, 0, 0, 0, 0, 0, 0, 0, 0, 2, 2, 2, 0, 0, 0, 0, 0, 1
        };
        /* STEPS more of SYS 0 .. 32; NONE: by how many bytes there are. */
        private static final int[] EXTRA = {
            0, 0, 0, 0, 0, 0, 0, 0, 100, 100, 100, 100, 0, NONE, 0, NONE, 0, 0, 0, 0,
            NONE, NONE, NONE, 5000, 5000, 5000, 100, 0, 100, 0, 0, 5000, NONE
        };

        final Applet[] applets;
        final Sha256 sha;
        final Cipher cipher;
        final Vault vault;
        final Signer signer;
        final Notes single = new Notes();
        final byte[] name = new byte[16];
        final byte[] work = new byte[2048];
        final byte[] small = new byte[64];
        Session session;
        Applet me;
        int number;
        int operand;
        /* Where on the stack the words begin that the code takes, and then those that it gives. */
        int base;
        /* What the run ended with, or its fault. */
        int told;
        int makes;

        Codes(Applet[] applets, Sha256 sha, Cipher cipher, Vault vault, Signer signer) {
            this.applets = applets;
            this.sha = sha;
            this.cipher = cipher;
            this.vault = vault;
            this.signer = signer;
            me = applets[0];
            session = new Session(NONE, applets);
        }

        /* WELL when the session's run has ended, DEAD when it has a fault; YIELDS; DOWN. */
        int run(Session now, int slice) {
            session = now;
            int codes = 0;
            for (int i = 0; i < MOST_ROUNDS && session.running > 0; i++) {
                if (slice != 0 && codes == slice) {
                    return YIELDS;
                }
                me = applets[session.chain[session.running - 1]];
                int before = session.steps;
                int outcome = read();
                if (outcome == ON) {
                    switch (GROUPS[number]) {
                        case 0: outcome = reckon(); break;
                        case 1: outcome = jump(); break;
                        case 2: outcome = touch(); break;
                        case 3: outcome = parameter(number - SYS); break;
                        case 4: outcome = change(number - SYS); break;
                        case 5: outcome = seek(number - SYS); break;
                        case 6: outcome = workOnBytes(number - SYS); break;
                        case 7: outcome = keepSecret(number - SYS); break;
                        case 8: outcome = useCurve(number - SYS); break;
                        case 9: outcome = askMachine(number - SYS); break;
                        case 10: outcome = transact(number - SYS); break;
                        default: outcome = verify(); break;
                    }
                }
                codes += session.steps != before ? 1 : 0;
                if (outcome == DOWN) {
                    return DOWN;
                }
                if (outcome != ON && isOver(outcome)) {
                    return outcome == ENDED ? WELL : DEAD;
                }
            }
            return DEAD;
        }

        /* The applet that ran leaves; its asker, if there is one, goes on with the answer. */
        private boolean isOver(int outcome) {
            session.leave();
            told = outcome == ENDED ? told : outcome;
            if (session.running == 0 || outcome == TOO_LONG) {
                return true;
            }
            Applet asker = applets[session.chain[session.running - 1]];
            asker.push(outcome == ENDED ? WELL : DEAD);
            asker.push(told);
            return false;
        }

        /* Reads the code at the place and what is told with it, and looks for faults 6, 1, 2 and 3. */
        private int read() {
            if (session.steps >= MOST_STEPS) {
                return TOO_LONG;
            }
            int at = me.place;
            if (at >= me.codeLength) {
                return STRANGE;
            }
            session.steps++;
            number = me.code[at] & 255;
            if (number > SYS) {
                return STRANGE;
            }
            int more = TOLD[number];
            int behind = at + 1 + more;
            if (behind > me.codeLength) {
                return STRANGE;
            }
            me.place = behind;
            if (more > 0) {
                readTold(at + 1, more);
            }
            if (number == SYS) {
                if (operand > 32) {
                    return STRANGE;
                }
                number = SYS + operand;
            }
            base = me.depth - TAKES[number];
            if (base < 0) {
                return TOO_FEW;
            }
            if (base + GIVES[number] > 64) {
                return TOO_MANY;
            }
            return number < SYS ? ON : takeSteps(EXTRA[number - SYS]);
        }

        private void readTold(int at, int n) {
            byte[] code = me.code;
            if (n == 1) {
                operand = code[at] & 255;
            } else if (n == 2) {
                operand = (code[at] & 255) << 8 | code[at + 1] & 255;
            } else {
                operand = code[at] & 255 | (code[at + 1] & 255) << 8 | (code[at + 2] & 255) << 16
                        | (code[at + 3] & 255) << 24;
            }
        }

        private int takeSteps(int extra) {
            int steps = extra;
            if (extra == NONE) {
                int n = argument(1);
                steps = n < 0 || n > 2048 ? 32 : n >> 6;
            }
            if (steps > MOST_STEPS - session.steps) {
                return TOO_LONG;
            }
            session.steps += steps;
            return ON;
        }

        /* The word i of those that the code takes, the lowest one first. */
        private int argument(int i) {
            return me.stack[base + i];
        }

        private int answer(int c) {
            me.stack[base] = c;
            me.depth = base + 1;
            return ON;
        }

        private int answerTwo(int c, int r) {
            me.stack[base] = c;
            me.stack[base + 1] = r;
            me.depth = base + 2;
            return ON;
        }

        private int done() {
            me.depth = base;
            return ON;
        }

        private int reckon() {
            switch (number) {
                case 0:
                    told = me.depth == 0 ? 0 : me.stack[me.depth - 1];
                    return ENDED;
                case 1:
                    return answer(operand);
                case 2:
                    return answerTwo(argument(0), argument(0));
                case 3:
                    return done();
                case 4:
                    return answerTwo(argument(1), argument(0));
                default:
                    return answer(worked(number, argument(0), argument(1)));
            }
        }

        static int worked(int code, int x, int y) {
            switch (code) {
                case 5: return x + y;
                case 6: return x - y;
                case 7: return x * y;
                case 8: return x & y;
                case 9: return x | y;
                case 10: return x ^ y;
                case 11: return x << (y & 31);
                case 12: return x >>> (y & 31);
                case 13: return (x ^ SIGN) < (y ^ SIGN) ? 1 : 0;
                default: return x == y ? 1 : 0;
            }
        }

        private int jump() {
            if (number == 18) {
                if (me.returnCount == 0) {
                    return RETURNS;
                }
                me.returnCount--;
                me.place = me.returns[me.returnCount];
                return ON;
            }
            if (number == 16 && argument(0) != 0) {
                return done();
            }
            if (number == 17) {
                if (me.returnCount == me.returns.length) {
                    return RETURNS;
                }
                me.returns[me.returnCount] = me.place;
                me.returnCount++;
            }
            me.place = operand;
            return done();
        }

        private int touch() {
            int size = number >= 21 ? 4 : 1;
            int a = me.stack[me.depth - 1];
            if (!me.within(a, size)) {
                return BEYOND;
            }
            byte[] bytes = me.memory.bytes;
            if (number == 19 || number == 21) {
                int word = 0;
                for (int i = 0; i < size; i++) {
                    word |= (bytes[me.spot(a + i)] & 255) << 8 * i;
                }
                return answer(word);
            }
            int value = argument(0);
            for (int i = 0; i < size; i++) {
                bytes[me.spot(a + i)] = (byte) (value >>> 8 * i);
            }
            return done();
        }

        private int parameter(int sys) {
            int i = me.stack[me.depth - 1];
            if (i < 0 || i > 3) {
                return REFUSED;
            }
            int sort = session.sorts[i];
            boolean goesOut = sort == 2 || sort == 3;
            boolean isValue = sort == 1 || goesOut;
            switch (sys) {
                case 0:
                    return answer(sort);
                case 1:
                    return isValue ? answer(session.firsts[i]) : REFUSED;
                case 2:
                    return isValue ? answer(session.seconds[i]) : REFUSED;
                case 3:
                    if (!goesOut) {
                        return REFUSED;
                    }
                    session.firsts[i] = argument(0);
                    return done();
                case 4:
                    if (!goesOut) {
                        return REFUSED;
                    }
                    session.seconds[i] = argument(0);
                    return done();
                case 5:
                    return sort >= 4 ? answer(session.seconds[i]) : REFUSED;
                default:
                    return parameterByte(sys == 7, i);
            }
        }

        private int parameterByte(boolean putting, int i) {
            int k = me.stack[me.depth - 2];
            if (session.sorts[i] < (putting ? 5 : 4) || k < 0 || k >= session.seconds[i]) {
                return REFUSED;
            }
            if (!putting) {
                return answer(session.bytes[i][k] & 255);
            }
            session.bytes[i][k] = (byte) argument(0);
            return done();
        }

        /* The name that the two upper words tell: its length, or NONE if it is not as said. */
        private int takeName() {
            int d = me.stack[me.depth - 2];
            int m = me.stack[me.depth - 1];
            if (m < 1 || m > 16 || !me.within(d, m)) {
                return NONE;
            }
            Arrays.fill(name, (byte) 0);
            me.take(d, m, name);
            return m;
        }

        private boolean has(int right) {
            return (me.rights & right) != 0;
        }

        /* PUT and DELETE. */
        private int change(int sys) {
            boolean putting = sys == 8;
            int a = argument(0);
            int size = putting ? argument(1) : NONE;
            if (putting && (size < 0 || size > 512 || !me.within(a, size))) {
                return BEYOND;
            }
            int length = takeName();
            if (length == NONE) {
                return BEYOND;
            }
            if (!has(1)) {
                return answer(DENIED);
            }
            boolean noting = session.keeper == me.number;
            int code = noting ? mayNote(putting, length) : mayChange(putting, length);
            if (code != WELL) {
                return answer(code);
            }
            Notes notes = noting ? me.notes : single;
            notes.count = noting ? notes.count : 0;
            int j = notes.note(name, length, size);
            if (j == NONE) {
                return answer(FULL);
            }
            if (putting) {
                me.take(a, size, notes.bytes[j]);
            }
            if (noting) {
                return answer(WELL);
            }
            code = vault.commit(notes, me.product, false);
            return code == DOWN ? DOWN : answer(code);
        }

        /* In a transaction a PUT looks at nothing; a DELETE needs the object by notes and tree. */
        private int mayNote(boolean putting, int length) {
            if (putting) {
                return WELL;
            }
            int j = me.notes.indexOf(name, length);
            if (j != NONE) {
                return me.notes.sizes[j] == NONE ? ABSENT : WELL;
            }
            return vault.find(me.product, name, length);
        }

        private int mayChange(boolean putting, int length) {
            int code = vault.find(me.product, name, length);
            if (putting && code == ABSENT) {
                return vault.room ? WELL : FULL;
            }
            return code;
        }

        /* GET, HAS and LIST. */
        private int seek(int sys) {
            if (sys == 26) {
                return list();
            }
            boolean getting = sys == 9;
            int a = argument(0);
            int most = getting ? argument(1) : 0;
            if (getting && (most < 0 || most > 512 || !me.within(a, most))) {
                return BEYOND;
            }
            int length = takeName();
            if (length == NONE) {
                return BEYOND;
            }
            if (!has(1)) {
                return answerTwo(DENIED, 0);
            }
            int j = session.keeper == me.number ? me.notes.indexOf(name, length) : NONE;
            if (j != NONE) {
                int size = me.notes.sizes[j];
                if (size == NONE) {
                    return answerTwo(ABSENT, 0);
                }
                me.give(me.notes.bytes[j], Math.min(size, most), a);
                return answerTwo(WELL, size);
            }
            int code = vault.find(me.product, name, length);
            if (code == WELL && getting) {
                code = vault.read(work);
            }
            if (code != WELL) {
                return answerTwo(code, 0);
            }
            int size = Vault.sizeOf(vault.disk[vault.found]);
            me.give(work, Math.min(size, most), a);
            return answerTwo(WELL, size);
        }

        private int list() {
            int d = argument(1);
            if (!me.within(d, 16)) {
                return BEYOND;
            }
            int code = has(1) ? vault.list(me.product, argument(0)) : DENIED;
            if (code != WELL) {
                return answerTwo(code, 0);
            }
            byte[] object = vault.disk[vault.found];
            System.arraycopy(object, 2, name, 0, 16);
            me.give(name, 16, d);
            return answerTwo(WELL, object[1]);
        }

        /* HASH, MAC and MOVE. */
        private int workOnBytes(int sys) {
            int a = argument(0);
            int n = argument(1);
            int d = argument(TAKES[number] - 1);
            if (!me.within(a, n) || !me.within(d, sys == 32 ? n : 32)) {
                return BEYOND;
            }
            if (sys == 20) {
                int k = argument(2);
                int m = argument(3);
                if (m < 0 || m > 64 || !me.within(k, m)) {
                    return BEYOND;
                }
                me.take(k, m, small);
                me.take(a, n, work);
                sha.mac(small, m, work, n, small);
                me.give(small, 32, d);
                return done();
            }
            me.take(a, n, work);
            if (sys == 32) {
                me.give(work, n, d);
            } else {
                sha.digest(work, 0, n, 0, small, 0);
                me.give(small, 32, d);
            }
            return done();
        }

        /* MAKE, SEAL and OPEN. */
        private int keepSecret(int sys) {
            int a = argument(0);
            int n = argument(1);
            if (sys == 15) {
                if (n < 0 || n > 256 || !me.within(a, n)) {
                    return BEYOND;
                }
                return has(4) ? make(a, n) : REFUSED;
            }
            int x = argument(2);
            if (n < 0 || n > 512 || !me.within(a, n + 16) || !me.within(x, 12)) {
                return BEYOND;
            }
            if (!has(4)) {
                return REFUSED;
            }
            sha.mac(cipher.key, 32, me.digest, 32, small);
            me.take(x, 12, cipher.nonce);
            me.take(a, n + 16, work);
            if (sys == 21) {
                cipher.seal(small, me.product, work, n);
                me.give(work, n + 16, a);
                return done();
            }
            if (!cipher.unseal(small, me.product, work, n)) {
                return answer(CORRUPT);
            }
            me.give(work, n, a);
            return answer(WELL);
        }

        private int make(int a, int n) {
            Arrays.fill(cipher.nonce, (byte) 0);
            cipher.nonce[0] = (byte) me.number;
            Sha256.putWord(cipher.nonce, 8, makes);
            Arrays.fill(work, 0, n, (byte) 0);
            cipher.stream(cipher.key, 0, work, 0, n);
            me.give(work, n, a);
            makes++;
            return done();
        }

        /* SIGN, PUBLIC and AGREE. */
        private int useCurve(int sys) {
            int d = me.stack[me.depth - 1];
            if (!me.within(d, sys == 23 ? 64 : 32)) {
                return BEYOND;
            }
            int a = argument(0);
            if (sys == 23 && (argument(1) < 0 || argument(1) > 512 || !me.within(a, argument(1)))) {
                return BEYOND;
            }
            if (sys == 31 && !(me.within(a, 32) && me.within(argument(1), 32))) {
                return BEYOND;
            }
            if (!has(4)) {
                return REFUSED;
            }
            if (sys == 31) {
                me.take(a, 32, small);
                me.take(argument(1), 32, work);
                signer.curve.agree(small, work, small);
                me.give(small, 32, d);
                return done();
            }
            signer.prepare();
            if (sys == 25) {
                me.give(signer.open, 32, d);
                return done();
            }
            me.take(a, argument(1), work);
            signer.sign(work, argument(1));
            me.give(signer.signature, 64, d);
            return done();
        }

        private int verify() {
            int a = argument(0);
            int n = argument(1);
            int k = argument(2);
            int s = argument(3);
            if (n < 0 || n > 512 || !me.within(a, n) || !me.within(k, 32) || !me.within(s, 64)) {
                return BEYOND;
            }
            me.take(a, n, work);
            me.take(k, 32, small);
            me.take(s, 64, signer.signature);
            return answer(signer.verifies(work, n, small) ? 1 : 0);
        }

        /* What is asked of the machine itself: CANCELLED, COUNT, PANIC, SELF, ASK, GROW, TIME. */
        private int askMachine(int sys) {
            switch (sys) {
                case 12: return answer(session.cancelled ? 1 : 0);
                case 14: return answer(vault.count);
                case 16: return PANIC;
                case 17: return answer(me.number);
                case 18: return ask(argument(0), argument(1));
                case 19: return answer(me.grow() ? WELL : FULL);
                default: return answer(session.steps);
            }
        }

        private int ask(int x, int y) {
            if (!has(2)) {
                return answerTwo(DENIED, 0);
            }
            if (x < 0 || x >= ENTRIES || !applets[x].in || y < 0 || y >= applets[x].commands) {
                return answerTwo(MISSING, 0);
            }
            if (applets[x].session != NONE || session.running >= Session.MOST_RUNNING) {
                return answerTwo(BUSY, 0);
            }
            session.enter(applets[x], y);
            return done();
        }

        /* BEGIN, COMMIT and UNDO. */
        private int transact(int sys) {
            if (sys == 27) {
                if (session.keeper != NONE) {
                    return answer(BUSY);
                }
                if (!has(1)) {
                    return answer(DENIED);
                }
                session.keeper = me.number;
                me.notes.count = 0;
                return answer(WELL);
            }
            if (session.keeper != me.number) {
                return answer(ABSENT);
            }
            session.keeper = NONE;
            if (sys == 29) {
                return answer(WELL);
            }
            int code = vault.commit(me.notes, me.product, true);
            return code == DOWN ? DOWN : answer(code);
        }
    }

    /** SHA-256 (FIPS 180-4) and HMAC with it (RFC 2104). */
    static final class Sha256 {
        private static final int[] FIRST = {
            0x6a09e667, 0xbb67ae85, 0x3c6ef372, 0xa54ff53a, 0x510e527f, 0x9b05688c, 0x1f83d9ab, 0x5be0cd19
        };
        private static final int[] ADDED = {
            0x428a2f98, 0x71374491, 0xb5c0fbcf, 0xe9b5dba5, 0x3956c25b, 0x59f111f1, 0x923f82a4, 0xab1c5ed5,
            0xd807aa98, 0x12835b01, 0x243185be, 0x550c7dc3, 0x72be5d74, 0x80deb1fe, 0x9bdc06a7, 0xc19bf174,
            0xe49b69c1, 0xefbe4786, 0x0fc19dc6, 0x240ca1cc, 0x2de92c6f, 0x4a7484aa, 0x5cb0a9dc, 0x76f988da,
            0x983e5152, 0xa831c66d, 0xb00327c8, 0xbf597fc7, 0xc6e00bf3, 0xd5a79147, 0x06ca6351, 0x14292967,
            0x27b70a85, 0x2e1b2138, 0x4d2c6dfc, 0x53380d13, 0x650a7354, 0x766a0abb, 0x81c2c92e, 0x92722c85,
            0xa2bfe8a1, 0xa81a664b, 0xc24b8b70, 0xc76c51a3, 0xd192e819, 0xd6990624, 0xf40e3585, 0x106aa070,
            0x19a4c116, 0x1e376c08, 0x2748774c, 0x34b0bcb5, 0x391c0cb3, 0x4ed8aa4a, 0x5b9cca4f, 0x682e6ff3,
            0x748f82ee, 0x78a5636f, 0x84c87814, 0x8cc70208, 0x90befffa, 0xa4506ceb, 0xbef9a3f7, 0xc67178f2
        };

        private final int[] state = new int[8];
        private final int[] words = new int[64];
        private final byte[] tail = new byte[128];
        private final byte[] pad = new byte[64];
        private final byte[] inner = new byte[32];

        static int word(byte[] row, int at) {
            return (row[at] & 255) << 24 | (row[at + 1] & 255) << 16 | (row[at + 2] & 255) << 8 | row[at + 3] & 255;
        }

        static void putWord(byte[] row, int at, int value) {
            row[at] = (byte) (value >>> 24);
            row[at + 1] = (byte) (value >>> 16);
            row[at + 2] = (byte) (value >>> 8);
            row[at + 3] = (byte) value;
        }

        /* The state already stands for the bytes that came before, a multiple of 64. */
        void digest(byte[] in, int at, int n, int before, byte[] out, int to) {
            if (before == 0) {
                System.arraycopy(FIRST, 0, state, 0, 8);
            }
            int rest = n & 63;
            int whole = n - rest;
            for (int i = 0; i < whole; i += 64) {
                compress(in, at + i);
            }
            Arrays.fill(tail, (byte) 0);
            if (rest > 0) {
                System.arraycopy(in, at + whole, tail, 0, rest);
            }
            tail[rest] = (byte) 128;
            int last = rest < 56 ? 0 : 64;
            putWord(tail, last + 60, 8 * (before + n));
            compress(tail, 0);
            if (last > 0) {
                compress(tail, last);
            }
            for (int i = 0; i < 8; i++) {
                putWord(out, to + 4 * i, state[i]);
            }
        }

        /* The key has 64 bytes at most; out has 32. */
        void mac(byte[] key, int m, byte[] in, int n, byte[] out) {
            Arrays.fill(pad, (byte) 0x36);
            for (int i = 0; i < m; i++) {
                pad[i] ^= key[i];
            }
            System.arraycopy(FIRST, 0, state, 0, 8);
            compress(pad, 0);
            digest(in, 0, n, 64, inner, 0);
            for (int i = 0; i < 64; i++) {
                pad[i] ^= 0x36 ^ 0x5c;
            }
            System.arraycopy(FIRST, 0, state, 0, 8);
            compress(pad, 0);
            digest(inner, 0, 32, 64, out, 0);
        }

        private void compress(byte[] in, int at) {
            int[] w = words;
            for (int i = 0; i < 16; i++) {
                int k = at + 4 * i;
                w[i] = (in[k] & 255) << 24 | (in[k + 1] & 255) << 16 | (in[k + 2] & 255) << 8 | in[k + 3] & 255;
            }
            for (int i = 16; i < 64; i++) {
                int x = w[i - 15];
                int y = w[i - 2];
                w[i] = w[i - 16] + w[i - 7]
                        + ((x >>> 7 | x << 25) ^ (x >>> 18 | x << 14) ^ x >>> 3)
                        + ((y >>> 17 | y << 15) ^ (y >>> 19 | y << 13) ^ y >>> 10);
            }
            int a = state[0];
            int b = state[1];
            int c = state[2];
            int d = state[3];
            int e = state[4];
            int f = state[5];
            int g = state[6];
            int h = state[7];
            for (int i = 0; i < 64; i++) {
                int one = h + ((e >>> 6 | e << 26) ^ (e >>> 11 | e << 21) ^ (e >>> 25 | e << 7))
                        + (g ^ e & (f ^ g)) + ADDED[i] + w[i];
                int two = ((a >>> 2 | a << 30) ^ (a >>> 13 | a << 19) ^ (a >>> 22 | a << 10))
                        + (a & b | c & (a | b));
                h = g;
                g = f;
                f = e;
                e = d + one;
                d = c;
                c = b;
                b = a;
                a = one + two;
            }
            state[0] += a;
            state[1] += b;
            state[2] += c;
            state[3] += d;
            state[4] += e;
            state[5] += f;
            state[6] += g;
            state[7] += h;
        }
    }

    /** ChaCha20, Poly1305 and their AEAD (RFC 8439); it holds the machine's KEY. */
    static final class Cipher {
        private static final int MASK = 0x3ffffff;
        private static final long WORD = 0xffffffffL;

        final byte[] key = new byte[32];
        final byte[] nonce = new byte[12];
        private final int[] start = new int[16];
        private final int[] state = new int[16];
        private final byte[] oneTime = new byte[32];
        private final byte[] text = new byte[560];
        private final byte[] tag = new byte[16];
        private final long[] sum = new long[5];
        private final long[] factor = new long[5];

        private static int word(byte[] row, int at) {
            return row[at] & 255 | (row[at + 1] & 255) << 8 | (row[at + 2] & 255) << 16 | (row[at + 3] & 255) << 24;
        }

        private static void putWord(byte[] row, int at, int value) {
            row[at] = (byte) value;
            row[at + 1] = (byte) (value >>> 8);
            row[at + 2] = (byte) (value >>> 16);
            row[at + 3] = (byte) (value >>> 24);
        }

        /* The n bytes become themselves xor the stream of the nonce, from a block counter on. */
        void stream(byte[] with, int counter, byte[] data, int at, int n) {
            prepare(with);
            int[] s = state;
            for (int done = 0; done < n; done += 64) {
                start[12] = counter + (done >> 6);
                System.arraycopy(start, 0, s, 0, 16);
                for (int i = 0; i < 10; i++) {
                    quarter(s, 0, 4, 8, 12);
                    quarter(s, 1, 5, 9, 13);
                    quarter(s, 2, 6, 10, 14);
                    quarter(s, 3, 7, 11, 15);
                    quarter(s, 0, 5, 10, 15);
                    quarter(s, 1, 6, 11, 12);
                    quarter(s, 2, 7, 8, 13);
                    quarter(s, 3, 4, 9, 14);
                }
                int part = Math.min(64, n - done);
                for (int i = 0; i < part; i++) {
                    int word = s[i >> 2] + start[i >> 2];
                    data[at + done + i] ^= (byte) (word >>> 8 * (i & 3));
                }
            }
        }

        private void prepare(byte[] with) {
            Arrays.fill(start, 0);
            start[0] = 0x61707865;
            start[1] = 0x3320646e;
            start[2] = 0x79622d32;
            start[3] = 0x6b206574;
            for (int i = 0; i < 32; i++) {
                start[4 + (i >> 2)] |= (with[i] & 255) << 8 * (i & 3);
            }
            for (int i = 0; i < 12; i++) {
                start[13 + (i >> 2)] |= (nonce[i] & 255) << 8 * (i & 3);
            }
        }

        private static void quarter(int[] s, int i, int j, int k, int l) {
            int a = s[i] + s[j];
            int d = s[l] ^ a;
            d = d << 16 | d >>> 16;
            int c = s[k] + d;
            int b = s[j] ^ c;
            b = b << 12 | b >>> 20;
            a += b;
            d ^= a;
            d = d << 8 | d >>> 24;
            c += d;
            b ^= c;
            s[i] = a;
            s[j] = b << 7 | b >>> 25;
            s[k] = c;
            s[l] = d;
        }

        /* The n bytes become secret, and their tag comes behind them. */
        void seal(byte[] with, int beside, byte[] data, int n) {
            stream(with, 1, data, 0, n);
            authenticate(with, beside, data, n);
            System.arraycopy(tag, 0, data, n, 16);
        }

        /* The other way round; false, and nothing is changed, if the tag behind them is not right. */
        boolean unseal(byte[] with, int beside, byte[] data, int n) {
            authenticate(with, beside, data, n);
            for (int i = 0; i < 16; i++) {
                if (tag[i] != data[n + i]) {
                    return false;
                }
            }
            stream(with, 1, data, 0, n);
            return true;
        }

        private void authenticate(byte[] with, int beside, byte[] data, int n) {
            Arrays.fill(oneTime, (byte) 0);
            stream(with, 0, oneTime, 0, 32);
            Arrays.fill(text, (byte) 0);
            text[0] = (byte) beside;
            System.arraycopy(data, 0, text, 16, n);
            int behind = 16 + (n + 15 & -16);
            putWord(text, behind, 1);
            putWord(text, behind + 8, n);
            poly(behind + 16);
        }

        /* Poly1305 of the first n bytes of the text, a multiple of 16, in limbs of 26 bits. */
        private void poly(int n) {
            factor[0] = word(oneTime, 0) & MASK;
            factor[1] = word(oneTime, 3) >>> 2 & 0x3ffff03;
            factor[2] = word(oneTime, 6) >>> 4 & 0x3ffc0ff;
            factor[3] = word(oneTime, 9) >>> 6 & 0x3f03fff;
            factor[4] = word(oneTime, 12) >>> 8 & 0x00fffff;
            Arrays.fill(sum, 0);
            for (int at = 0; at < n; at += 16) {
                sum[0] += word(text, at) & MASK;
                sum[1] += word(text, at + 3) >>> 2 & MASK;
                sum[2] += word(text, at + 6) >>> 4 & MASK;
                sum[3] += word(text, at + 9) >>> 6;
                sum[4] += word(text, at + 12) >>> 8 | 1 << 24;
                multiply();
            }
            reduce();
            putTag();
        }

        /* The sum times the factor modulo 2^130 - 5: what goes beyond comes back times 5. */
        private void multiply() {
            long h0 = sum[0], h1 = sum[1], h2 = sum[2], h3 = sum[3], h4 = sum[4];
            long r0 = factor[0], r1 = factor[1], r2 = factor[2], r3 = factor[3], r4 = factor[4];
            long d0 = h0 * r0 + 5 * (h1 * r4 + h2 * r3 + h3 * r2 + h4 * r1);
            long d1 = h0 * r1 + h1 * r0 + 5 * (h2 * r4 + h3 * r3 + h4 * r2);
            long d2 = h0 * r2 + h1 * r1 + h2 * r0 + 5 * (h3 * r4 + h4 * r3);
            long d3 = h0 * r3 + h1 * r2 + h2 * r1 + h3 * r0 + 5 * (h4 * r4);
            long d4 = h0 * r4 + h1 * r3 + h2 * r2 + h3 * r1 + h4 * r0;
            d1 += d0 >>> 26;
            d2 += d1 >>> 26;
            d3 += d2 >>> 26;
            d4 += d3 >>> 26;
            long low = (d0 & MASK) + 5 * (d4 >>> 26);
            sum[0] = low & MASK;
            sum[1] = (d1 & MASK) + (low >>> 26);
            sum[2] = d2 & MASK;
            sum[3] = d3 & MASK;
            sum[4] = d4 & MASK;
        }

        /* Brings the sum below 2^130 - 5, all its limbs below 2^26. */
        private void reduce() {
            for (int round = 0; round < 2; round++) {
                for (int i = 0; i < 4; i++) {
                    sum[i + 1] += sum[i] >>> 26;
                    sum[i] &= MASK;
                }
                sum[0] += 5 * (sum[4] >>> 26);
                sum[4] &= MASK;
            }
            boolean beyond = sum[0] >= MASK - 4;
            for (int i = 1; i < 5; i++) {
                beyond &= sum[i] == MASK;
            }
            if (beyond) {
                sum[0] -= MASK - 4;
                Arrays.fill(sum, 1, 5, 0);
            }
        }

        /* The tag is the sum and the second half of the one-time key, modulo 2^128. */
        private void putTag() {
            long carry = 0;
            for (int i = 0; i < 4; i++) {
                int bit = 32 * i;
                int limb = bit / 26;
                int shift = bit - 26 * limb;
                long word = (sum[limb] >>> shift | sum[limb + 1] << 26 - shift) & WORD;
                carry += word + (word(oneTime, 16 + 4 * i) & WORD);
                putWord(tag, 4 * i, (int) carry);
                carry >>>= 32;
            }
        }
    }

    /**
     * Numbers modulo 2^255 - 19 as ten limbs of 26 and 25 bits by turns, the points of edwards25519 as
     * X, Y, Z and T with x = X / Z, y = Y / Z and x y = T / Z, and X25519 (RFC 7748).
     *
     * <p>A product has limbs of about half their width, with sign. Sums and differences are not carried:
     * what is multiplied is a sum of few products, so that no sum of limb products leaves 63 bits.
     */
    static final class Curve {
        private static final int[] STARTS = {0, 26, 51, 77, 102, 128, 153, 179, 204, 230};
        private static final long[] ONE = {1, 0, 0, 0, 0, 0, 0, 0, 0, 0};
        private static final long[] A24 = {121665, 0, 0, 0, 0, 0, 0, 0, 0, 0};
        private static final long[] D = {
            56195235, 13857412, 51736253, 6949390, 114729, 24766616, 60832955, 30306712, 48412415, 21499315
        };
        private static final long[] TWO_D = {
            45281625, 27714825, 36363642, 13898781, 229458, 15978800, 54557047, 27058993, 29715967, 9444199
        };
        private static final long[] ROOT_OF_MINUS_ONE = {
            34513072, 25610706, 9377949, 3500415, 12389472, 33281959, 41962654, 31548777, 326685, 11406482
        };
        /*
         * For r = 1 .. 15 the sum of 2^(64 j) B over the bits j of r, as y + x, y - x and 2 d x y: so
         * [s]B takes 64 doublings only.
         */
        private static final int[] COMB = {
            25967493, 19198397, 29566455, 3660896, 54414519, 4014786, 27544626, 21800161, 61029707, 2047604,
            54563134, 934261, 64385954, 3049989, 66381436, 9406985, 12720692, 5043384, 19500929, 18085054,
            58370664, 4489569, 9688441, 18769238, 10184608, 21191052, 29287918, 11864899, 42594502, 29115885,
            64091413, 10058205, 1980837, 3964243, 22160966, 12322533, 60677741, 20936246, 12228556, 26550755,
            32944382, 14922211, 44263970, 5188527, 21913450, 24834489, 4001464, 13238564, 60994061, 8653814,
            22865569, 28901697, 27603667, 21009037, 14348957, 8234005, 24808405, 5719875, 28483275, 2841751,
            1989096, 24207704, 30146570, 22753856, 35540176, 4580428, 39151743, 31811522, 40141116, 10201955,
            8676004, 23997863, 60488046, 2834072, 12018111, 1262326, 12154436, 31848867, 24181778, 2479830,
            39561027, 29933814, 55430265, 694157, 1244790, 7563226, 63465557, 12404326, 7987052, 21830081,
            11374242, 12660715, 17861383, 21013599, 10935567, 1099227, 53222788, 24462691, 39381819, 11358503,
            54378055, 10311866, 1510375, 10778093, 64989409, 24408729, 32676002, 11149336, 40985213, 4985767,
            48012542, 341146, 60911379, 33315398, 15756972, 24757770, 66125820, 13794113, 47694557, 17933176,
            62678856, 648056, 31384611, 17204624, 60588021, 8106392, 14624995, 27901610, 38602051, 10126553,
            61028846, 9129668, 44377386, 8611524, 34949269, 16052465, 18704982, 8772605, 61314087, 19357102,
            22472221, 9473251, 20136607, 3545737, 6583525, 28160389, 44807891, 28853391, 37392334, 20479679,
            57279564, 29445960, 16540348, 25812076, 15955698, 18982952, 11561321, 24414771, 15793243, 20534888,
            1208348, 3808679, 57409472, 5250273, 39285616, 191259, 10659206, 6395949, 20314229, 29999239,
            64955422, 4260297, 27710638, 22385792, 58529726, 10918622, 57519664, 245709, 50363324, 26473180,
            64196810, 30815003, 52397853, 27834580, 62775701, 4380255, 6014946, 14545162, 47643912, 29152025,
            10017796, 15920398, 48558718, 26351677, 1984510, 3446813, 46156647, 32357111, 15251529, 2975278,
            12777097, 32531075, 29704761, 4041038, 33834264, 743744, 31466336, 14221651, 51059398, 17073314,
            793280, 24323954, 8836301, 27318725, 39747955, 31184838, 33152842, 28669181, 57202663, 32932579,
            5666214, 525582, 20782575, 25516013, 42570364, 14657739, 16099374, 1468826, 60937436, 18367850,
            62249590, 29775088, 64191105, 26806412, 7778749, 11688288, 36704511, 23683193, 65549940, 23690785,
            10666484, 22545923, 65536337, 14574406, 33913539, 3100313, 54338524, 12065532, 17172465, 18251938,
            21098884, 14267519, 2351070, 8916607, 36545832, 22062925, 15773440, 3623271, 64400693, 16797632,
            48260556, 10532635, 13162400, 32051799, 14345811, 12380276, 55405695, 30009961, 1941254, 18909527,
            30341120, 16430044, 64448384, 2511959, 37804501, 2737271, 66393141, 9193223, 51103317, 20584014,
            65364876, 25449128, 37855835, 21581351, 48802090, 25891747, 6901437, 19434198, 9943479, 28238953,
            31969798, 7967153, 8955209, 7115550, 46463975, 28005022, 28734582, 7563797, 60493502, 8601077,
            48716872, 10736546, 23861626, 9052160, 15955978, 12329328, 31253580, 17876711, 20575600, 32523809,
            16678346, 19195772, 37343158, 8281418, 64240356, 25042205, 32706074, 13869361, 58231188, 578952,
            22694915, 29097656, 29402142, 10609596, 12393514, 10083943, 42271230, 9465662, 9244769, 14895110,
            40048095, 289603, 38929533, 3085685, 2987060, 22894700, 17280211, 29218551, 21357044, 1113015,
            50803223, 5373105, 37854936, 13606270, 51988196, 4323330, 65928888, 15189169, 43316304, 6091070,
            42858948, 8034340, 46507950, 3251098, 23984608, 9786034, 2664017, 9329462, 38376396, 7907776,
            6062367, 8646453, 16804867, 32282464, 9625329, 30556287, 24319371, 23385113, 48259621, 25111823,
            17431460, 21130829, 57583136, 28322584, 3552973, 4201607, 57040169, 15627003, 54598446, 1120551,
            26747231, 21572453, 5341569, 20341171, 7208512, 1498346, 51882680, 11658865, 61197326, 3287151,
            1904716, 29420890, 23638460, 13144862, 16039401, 15035491, 8784782, 14243278, 66047038, 28186097,
            52953536, 9809186, 33066810, 23192064, 33193722, 20167233, 13995683, 22631658, 56480792, 2586799,
            66087039, 4455675, 57952126, 27758363, 24832936, 23462733, 53515022, 5856403, 44841764, 23927224,
            66828354, 29022673, 55665263, 27984904, 31948145, 33081498, 30652344, 33049413, 23313551, 2512041,
            8321084, 3330807, 4510805, 30604446, 39507739, 6611877, 32869763, 31849117, 30301292, 16936235,
            54743236, 21982816, 11962522, 2961320, 35956300, 21626671, 24989996, 28090212, 40912471, 27714978
        };
        /* Rows of: from, how often squared, times, to. They lead from row 0 to its power 2^250 - 1 in row 3. */
        private static final int[] CHAIN = {
            0, 0, 0, 1, 1, 2, 0, 2, 2, 0, 1, 1, 1, 1, 2, 2, 2, 5, 2, 2, 2, 10, 2, 3,
            3, 20, 3, 3, 3, 10, 2, 2, 2, 50, 2, 3, 3, 100, 3, 3, 3, 50, 2, 3
        };

        private final long[][] t = new long[7][10];
        private final long[][] powers = new long[5][10];
        private final long[][] table = new long[64][10];
        private final long[][] entry = new long[3][10];
        private final long[][] ladder = new long[5][10];
        private final byte[] number = new byte[32];

        private static void add(long[] out, long[] f, long[] g) {
            for (int i = 0; i < 10; i++) {
                out[i] = f[i] + g[i];
            }
        }

        private static void subtract(long[] out, long[] f, long[] g) {
            for (int i = 0; i < 10; i++) {
                out[i] = f[i] - g[i];
            }
        }

        private static void copy(long[] out, long[] f) {
            System.arraycopy(f, 0, out, 0, 10);
        }

        private static void negate(long[] f) {
            for (int i = 0; i < 10; i++) {
                f[i] = -f[i];
            }
        }

        private static void multiply(long[] out, long[] f, long[] g) {
            long f0 = f[0], f1 = f[1], f2 = f[2], f3 = f[3], f4 = f[4];
            long f5 = f[5], f6 = f[6], f7 = f[7], f8 = f[8], f9 = f[9];
            long g0 = g[0], g1 = g[1], g2 = g[2], g3 = g[3], g4 = g[4];
            long g5 = g[5], g6 = g[6], g7 = g[7], g8 = g[8], g9 = g[9];
            long h0 = f0 * g0
                    + 19 * (f2 * g8 + f4 * g6 + f6 * g4 + f8 * g2 + 2 * (f1 * g9 + f3 * g7 + f5 * g5 + f7 * g3 + f9 * g1));
            long h1 = f0 * g1 + f1 * g0
                    + 19 * (f2 * g9 + f3 * g8 + f4 * g7 + f5 * g6 + f6 * g5 + f7 * g4 + f8 * g3 + f9 * g2);
            long h2 = f0 * g2 + f2 * g0 + 2 * (f1 * g1)
                    + 19 * (f4 * g8 + f6 * g6 + f8 * g4 + 2 * (f3 * g9 + f5 * g7 + f7 * g5 + f9 * g3));
            long h3 = f0 * g3 + f1 * g2 + f2 * g1 + f3 * g0
                    + 19 * (f4 * g9 + f5 * g8 + f6 * g7 + f7 * g6 + f8 * g5 + f9 * g4);
            long h4 = f0 * g4 + f2 * g2 + f4 * g0 + 2 * (f1 * g3 + f3 * g1)
                    + 19 * (f6 * g8 + f8 * g6 + 2 * (f5 * g9 + f7 * g7 + f9 * g5));
            long h5 = f0 * g5 + f1 * g4 + f2 * g3 + f3 * g2 + f4 * g1 + f5 * g0
                    + 19 * (f6 * g9 + f7 * g8 + f8 * g7 + f9 * g6);
            long h6 = f0 * g6 + f2 * g4 + f4 * g2 + f6 * g0 + 2 * (f1 * g5 + f3 * g3 + f5 * g1)
                    + 19 * (f8 * g8 + 2 * (f7 * g9 + f9 * g7));
            long h7 = f0 * g7 + f1 * g6 + f2 * g5 + f3 * g4 + f4 * g3 + f5 * g2 + f6 * g1 + f7 * g0
                    + 19 * (f8 * g9 + f9 * g8);
            long h8 = f0 * g8 + f2 * g6 + f4 * g4 + f6 * g2 + f8 * g0 + 2 * (f1 * g7 + f3 * g5 + f5 * g3 + f7 * g1)
                    + 19 * (2 * (f9 * g9));
            long h9 = f0 * g9 + f1 * g8 + f2 * g7 + f3 * g6 + f4 * g5 + f5 * g4 + f6 * g3 + f7 * g2 + f8 * g1 + f9 * g0;
            long c = h0 + (1L << 25) >> 26; h1 += c; h0 -= c << 26;
            c = h4 + (1L << 25) >> 26; h5 += c; h4 -= c << 26;
            c = h1 + (1L << 24) >> 25; h2 += c; h1 -= c << 25;
            c = h5 + (1L << 24) >> 25; h6 += c; h5 -= c << 25;
            c = h2 + (1L << 25) >> 26; h3 += c; h2 -= c << 26;
            c = h6 + (1L << 25) >> 26; h7 += c; h6 -= c << 26;
            c = h3 + (1L << 24) >> 25; h4 += c; h3 -= c << 25;
            c = h7 + (1L << 24) >> 25; h8 += c; h7 -= c << 25;
            c = h4 + (1L << 25) >> 26; h5 += c; h4 -= c << 26;
            c = h8 + (1L << 25) >> 26; h9 += c; h8 -= c << 26;
            c = h9 + (1L << 24) >> 25; h0 += 19 * c; h9 -= c << 25;
            c = h0 + (1L << 25) >> 26; h1 += c; h0 -= c << 26;
            out[0] = h0;
            out[1] = h1;
            out[2] = h2;
            out[3] = h3;
            out[4] = h4;
            out[5] = h5;
            out[6] = h6;
            out[7] = h7;
            out[8] = h8;
            out[9] = h9;
        }

        /* Bit 255 is left out. */
        private static void unpack(long[] out, byte[] in, int at) {
            for (int i = 0; i < 10; i++) {
                int from = at + (STARTS[i] >> 3);
                long four = in[from] & 255 | (in[from + 1] & 255) << 8 | (in[from + 2] & 255) << 16
                        | (in[from + 3] & 255L) << 24;
                out[i] = four >> (STARTS[i] & 7) & (1L << 26 - (i & 1)) - 1;
            }
        }

        /* The least number that is the same modulo 2^255 - 19. */
        private static void pack(byte[] out, int at, long[] f) {
            long q = 19 * f[9] + (1L << 24) >> 25;
            for (int i = 0; i < 10; i++) {
                q = f[i] + q >> 26 - (i & 1);
            }
            long carry = 19 * q;
            long bits = 0;
            int held = 0;
            int k = 0;
            for (int i = 0; i < 10; i++) {
                int width = 26 - (i & 1);
                carry += f[i];
                bits |= (carry & (1L << width) - 1) << held;
                carry >>= width;
                held += width;
                for (; held >= 8; held -= 8) {
                    out[at + k] = (byte) bits;
                    bits >>>= 8;
                    k++;
                }
            }
            out[at + 31] = (byte) bits;
        }

        private boolean isZero(long[] f) {
            pack(number, 0, f);
            int rest = 0;
            for (int i = 0; i < 32; i++) {
                rest |= number[i];
            }
            return rest == 0;
        }

        /* f to 2^255 - 21 (its inverse), or else to 2^252 - 3 (for a root). */
        private void toPower(long[] out, long[] f, boolean inverse) {
            copy(powers[0], f);
            long[] x = powers[4];
            for (int row = 0; row < CHAIN.length; row += 4) {
                copy(x, powers[CHAIN[row]]);
                for (int i = 0; i < CHAIN[row + 1]; i++) {
                    multiply(x, x, x);
                }
                multiply(powers[CHAIN[row + 3]], x, powers[CHAIN[row + 2]]);
            }
            copy(x, powers[3]);
            for (int i = 0; i < (inverse ? 5 : 2); i++) {
                multiply(x, x, x);
            }
            multiply(out, x, powers[inverse ? 1 : 0]);
        }

        private static void setNeutral(long[][] p) {
            Arrays.fill(p[0], 0);
            copy(p[1], ONE);
            copy(p[2], ONE);
            Arrays.fill(p[3], 0);
        }

        private void twice(long[][] p) {
            multiply(t[0], p[0], p[0]);
            multiply(t[1], p[1], p[1]);
            multiply(t[2], p[2], p[2]);
            add(t[2], t[2], t[2]);
            add(t[3], p[0], p[1]);
            multiply(t[3], t[3], t[3]);
            add(t[4], t[0], t[1]);
            subtract(t[3], t[4], t[3]);
            subtract(t[5], t[0], t[1]);
            add(t[6], t[2], t[5]);
            multiply(p[0], t[3], t[6]);
            multiply(p[1], t[5], t[4]);
            multiply(p[2], t[6], t[5]);
            multiply(p[3], t[3], t[4]);
        }

        /* p becomes p + q, the point q of four rows of a table. */
        void join(long[][] p, long[][] q, int at) {
            subtract(t[4], q[at + 1], q[at]);
            add(t[5], q[at + 1], q[at]);
            multiply(t[6], q[at + 3], TWO_D);
            multiply(t[3], p[2], q[at + 2]);
            add(t[3], t[3], t[3]);
            joinBy(p, t[5], t[4], t[6]);
        }

        private void joinFromComb(long[][] p, int r) {
            for (int k = 0; k < 30; k++) {
                entry[k / 10][k % 10] = COMB[30 * (r - 1) + k];
            }
            add(t[3], p[2], p[2]);
            joinBy(p, entry[0], entry[1], entry[2]);
        }

        /* p becomes p + q by q's y + x, y - x and 2 d x y; twice the product of the Zs is in t[3]. */
        private void joinBy(long[][] p, long[] plus, long[] minus, long[] xy) {
            subtract(t[0], p[1], p[0]);
            multiply(t[0], t[0], minus);
            add(t[1], p[1], p[0]);
            multiply(t[1], t[1], plus);
            multiply(t[2], p[3], xy);
            subtract(t[4], t[1], t[0]);
            add(t[5], t[1], t[0]);
            subtract(t[6], t[3], t[2]);
            add(t[3], t[3], t[2]);
            multiply(p[0], t[4], t[6]);
            multiply(p[1], t[3], t[5]);
            multiply(p[2], t[6], t[3]);
            multiply(p[3], t[4], t[5]);
        }

        private static int bit(byte[] scalar, int i) {
            return scalar[i >> 3] >> (i & 7) & 1;
        }

        /* p becomes [scalar]B. */
        void base(long[][] p, byte[] scalar) {
            setNeutral(p);
            for (int i = 63; i >= 0; i--) {
                twice(p);
                int r = bit(scalar, i) | bit(scalar, i + 64) << 1 | bit(scalar, i + 128) << 2
                        | bit(scalar, i + 192) << 3;
                if (r != 0) {
                    joinFromComb(p, r);
                }
            }
        }

        /* p becomes [scalar]q, by four bits of the scalar at a time. */
        void times(long[][] p, byte[] scalar, long[][] q) {
            setNeutral(p);
            for (int i = 1; i < 16; i++) {
                join(p, q, 0);
                for (int k = 0; k < 4; k++) {
                    copy(table[4 * i + k], p[k]);
                }
            }
            setNeutral(p);
            for (int i = 63; i >= 0; i--) {
                for (int k = 0; k < 4; k++) {
                    twice(p);
                }
                int four = scalar[i >> 1] >> 4 * (i & 1) & 15;
                if (four != 0) {
                    join(p, table, 4 * four);
                }
            }
        }

        void encode(long[][] p, byte[] out, int at) {
            toPower(t[0], p[2], true);
            multiply(t[1], p[0], t[0]);
            multiply(t[2], p[1], t[0]);
            pack(number, 0, t[1]);
            pack(out, at, t[2]);
            out[at + 31] |= (byte) (number[0] << 7);
        }

        /* False when the 32 bytes are no encoding of a point: y is too high, or there is no such x. */
        boolean decode(long[][] p, byte[] in) {
            unpack(p[1], in, 0);
            pack(number, 0, p[1]);
            int rest = number[31] ^ in[31] & 127;
            for (int i = 0; i < 31; i++) {
                rest |= number[i] ^ in[i];
            }
            if (rest != 0 || !findX(p)) {
                return false;
            }
            boolean isOdd = in[31] < 0;
            if (isZero(p[0]) && isOdd) {
                return false;
            }
            if ((number[0] & 1) != (isOdd ? 1 : 0)) {
                negate(p[0]);
            }
            copy(p[2], ONE);
            multiply(p[3], p[0], p[1]);
            return true;
        }

        /* The root of u / v, u = y^2 - 1 and v = d y^2 + 1, by u (u v)^(2^252 - 3); false when there is none. */
        private boolean findX(long[][] p) {
            long[] u = t[0];
            long[] v = t[1];
            long[] x = p[0];
            multiply(t[2], p[1], p[1]);
            subtract(u, t[2], ONE);
            multiply(v, t[2], D);
            add(v, v, ONE);
            multiply(t[2], u, v);
            toPower(t[2], t[2], false);
            multiply(x, u, t[2]);
            multiply(t[2], x, x);
            multiply(t[2], t[2], v);
            subtract(t[3], t[2], u);
            if (isZero(t[3])) {
                return true;
            }
            add(t[3], t[2], u);
            multiply(x, x, ROOT_OF_MINUS_ONE);
            return isZero(t[3]);
        }

        static void negatePoint(long[][] p) {
            negate(p[0]);
            negate(p[3]);
        }

        /* X25519 of a number k and a u, 32 bytes each. */
        void agree(byte[] k, byte[] u, byte[] out) {
            System.arraycopy(k, 0, number, 0, 32);
            number[0] &= (byte) 248;
            number[31] = (byte) (number[31] & 127 | 64);
            long[] x1 = ladder[4];
            unpack(x1, u, 0);
            copy(ladder[0], ONE);
            Arrays.fill(ladder[1], 0);
            copy(ladder[2], x1);
            copy(ladder[3], ONE);
            for (int i = 254; i >= 0; i--) {
                int at = 2 * bit(number, i);
                step(ladder[at], ladder[at + 1], ladder[2 - at], ladder[3 - at]);
            }
            toPower(t[0], ladder[1], true);
            multiply(t[0], ladder[0], t[0]);
            pack(out, 0, t[0]);
        }

        /* One step of the ladder: x2 : z2 is doubled, x3 : z3 becomes the sum of both. */
        private void step(long[] x2, long[] z2, long[] x3, long[] z3) {
            add(t[0], x2, z2);
            subtract(t[1], x2, z2);
            add(t[2], x3, z3);
            subtract(t[3], x3, z3);
            multiply(t[3], t[3], t[0]);
            multiply(t[2], t[2], t[1]);
            add(x3, t[3], t[2]);
            multiply(x3, x3, x3);
            subtract(z3, t[3], t[2]);
            multiply(z3, z3, z3);
            multiply(z3, z3, ladder[4]);
            multiply(t[0], t[0], t[0]);
            multiply(t[1], t[1], t[1]);
            multiply(x2, t[0], t[1]);
            subtract(t[2], t[0], t[1]);
            multiply(z2, t[2], A24);
            add(z2, z2, t[0]);
            multiply(z2, z2, t[2]);
        }
    }

    /** Ed25519 (RFC 8032) with the machine's own key, and SHA-512 for it. */
    static final class Signer {
        private static final long[] FIRST = {
            0x6a09e667f3bcc908L, 0xbb67ae8584caa73bL, 0x3c6ef372fe94f82bL, 0xa54ff53a5f1d36f1L,
            0x510e527fade682d1L, 0x9b05688c2b3e6c1fL, 0x1f83d9abfb41bd6bL, 0x5be0cd19137e2179L
        };
        private static final long[] ADDED = {
            0x428a2f98d728ae22L, 0x7137449123ef65cdL, 0xb5c0fbcfec4d3b2fL, 0xe9b5dba58189dbbcL,
            0x3956c25bf348b538L, 0x59f111f1b605d019L, 0x923f82a4af194f9bL, 0xab1c5ed5da6d8118L,
            0xd807aa98a3030242L, 0x12835b0145706fbeL, 0x243185be4ee4b28cL, 0x550c7dc3d5ffb4e2L,
            0x72be5d74f27b896fL, 0x80deb1fe3b1696b1L, 0x9bdc06a725c71235L, 0xc19bf174cf692694L,
            0xe49b69c19ef14ad2L, 0xefbe4786384f25e3L, 0x0fc19dc68b8cd5b5L, 0x240ca1cc77ac9c65L,
            0x2de92c6f592b0275L, 0x4a7484aa6ea6e483L, 0x5cb0a9dcbd41fbd4L, 0x76f988da831153b5L,
            0x983e5152ee66dfabL, 0xa831c66d2db43210L, 0xb00327c898fb213fL, 0xbf597fc7beef0ee4L,
            0xc6e00bf33da88fc2L, 0xd5a79147930aa725L, 0x06ca6351e003826fL, 0x142929670a0e6e70L,
            0x27b70a8546d22ffcL, 0x2e1b21385c26c926L, 0x4d2c6dfc5ac42aedL, 0x53380d139d95b3dfL,
            0x650a73548baf63deL, 0x766a0abb3c77b2a8L, 0x81c2c92e47edaee6L, 0x92722c851482353bL,
            0xa2bfe8a14cf10364L, 0xa81a664bbc423001L, 0xc24b8b70d0f89791L, 0xc76c51a30654be30L,
            0xd192e819d6ef5218L, 0xd69906245565a910L, 0xf40e35855771202aL, 0x106aa07032bbd1b8L,
            0x19a4c116b8d2d0c8L, 0x1e376c085141ab53L, 0x2748774cdf8eeb99L, 0x34b0bcb5e19b48a8L,
            0x391c0cb3c5c95a63L, 0x4ed8aa4ae3418acbL, 0x5b9cca4f7763e373L, 0x682e6ff3d6b2b8a3L,
            0x748f82ee5defb2fcL, 0x78a5636f43172f60L, 0x84c87814a1f0ab72L, 0x8cc702081a6439ecL,
            0x90befffa23631e28L, 0xa4506cebde82bde9L, 0xbef9a3f7b2c67915L, 0xc67178f2e372532bL,
            0xca273eceea26619cL, 0xd186b8c721c0c207L, 0xeada7dd6cde0eb1eL, 0xf57d4f7fee6ed178L,
            0x06f067aa72176fbaL, 0x0a637dc5a2c898a6L, 0x113f9804bef90daeL, 0x1b710b35131c471bL,
            0x28db77f523047d84L, 0x32caab7b40c72493L, 0x3c9ebe0a15c9bebcL, 0x431d67c49c100d4cL,
            0x4cc5d4becb3e42b6L, 0x597f299cfc657e2aL, 0x5fcb6fab3ad6faecL, 0x6c44198c4a475817L
        };
        /* The group's order, the lowest byte first. */
        private static final int[] ORDER = {
            237, 211, 245, 92, 26, 99, 18, 88, 214, 156, 247, 162, 222, 249, 222, 20,
            0, 0, 0, 0, 0, 0, 0, 0, 0, 0, 0, 0, 0, 0, 0, 16
        };

        final Curve curve = new Curve();
        /* The public key, and the signature that was made last or is to be looked at. */
        final byte[] open = new byte[32];
        final byte[] signature = new byte[64];
        private final Sha256 sha;
        private final byte[] key;
        private boolean prepared;
        private final byte[] secret = new byte[64];
        private final byte[] hash = new byte[64];
        private final byte[] text = new byte[576];
        private final byte[] tail = new byte[256];
        private final long[] state = new long[8];
        private final long[] words = new long[80];
        private final long[] digits = new long[64];
        private final byte[] scalar = new byte[32];
        private final long[][] point = new long[4][10];
        private final long[][] other = new long[4][10];

        Signer(Sha256 sha, byte[] key) {
            this.sha = sha;
            this.key = key;
        }

        /* The KEY stays from the first boot on, so the keys that come of it are made once only. */
        void prepare() {
            if (prepared) {
                return;
            }
            text[0] = 1;
            sha.mac(key, 32, text, 1, secret);
            sha512(secret, 32, secret);
            secret[0] &= (byte) 248;
            secret[31] = (byte) (secret[31] & 127 | 64);
            curve.base(point, secret);
            curve.encode(point, open, 0);
            prepared = true;
        }

        /* The signature of the first n bytes, 512 at most. */
        void sign(byte[] message, int n) {
            System.arraycopy(secret, 32, text, 0, 32);
            System.arraycopy(message, 0, text, 32, n);
            sha512(text, 32 + n, hash);
            reduceHash();
            curve.base(point, scalar);
            curve.encode(point, signature, 0);
            System.arraycopy(scalar, 0, signature, 32, 32);
            hashSigned(message, n, open);
            reduceHash();
            for (int i = 0; i < 64; i++) {
                digits[i] = i < 32 ? signature[32 + i] & 255 : 0;
            }
            for (int i = 0; i < 32; i++) {
                for (int k = 0; k < 32; k++) {
                    digits[i + k] += (scalar[i] & 255) * (secret[k] & 255);
                }
            }
            reduce(signature, 32);
        }

        /* Whether the signature is one of the first n bytes by a public key. */
        boolean verifies(byte[] message, int n, byte[] by) {
            if (!isBelowOrder() || !curve.decode(other, by)) {
                return false;
            }
            Curve.negatePoint(other);
            hashSigned(message, n, by);
            reduceHash();
            curve.times(point, scalar, other);
            System.arraycopy(signature, 32, scalar, 0, 32);
            curve.base(other, scalar);
            curve.join(point, other, 0);
            curve.encode(point, hash, 0);
            for (int i = 0; i < 32; i++) {
                if (hash[i] != signature[i]) {
                    return false;
                }
            }
            return true;
        }

        private boolean isBelowOrder() {
            for (int i = 31; i >= 0; i--) {
                int digit = signature[32 + i] & 255;
                if (digit != ORDER[i]) {
                    return digit < ORDER[i];
                }
            }
            return false;
        }

        /* The hash of the signature's point, a public key and the message. */
        private void hashSigned(byte[] message, int n, byte[] by) {
            System.arraycopy(signature, 0, text, 0, 32);
            System.arraycopy(by, 0, text, 32, 32);
            System.arraycopy(message, 0, text, 64, n);
            sha512(text, 64 + n, hash);
        }

        private void reduceHash() {
            for (int i = 0; i < 64; i++) {
                digits[i] = hash[i] & 255;
            }
            reduce(scalar, 0);
        }

        /* The number of the 64 digits modulo the group's order, which is 2^252 and some. */
        private void reduce(byte[] out, int at) {
            long[] x = digits;
            for (int i = 63; i >= 32; i--) {
                long carry = 0;
                for (int j = i - 32; j < i - 12; j++) {
                    x[j] += carry - 16 * x[i] * ORDER[j - (i - 32)];
                    carry = x[j] + 128 >> 8;
                    x[j] -= carry << 8;
                }
                x[i - 12] += carry;
                x[i] = 0;
            }
            long carry = 0;
            for (int j = 0; j < 32; j++) {
                x[j] += carry - (x[31] >> 4) * ORDER[j];
                carry = x[j] >> 8;
                x[j] &= 255;
            }
            for (int j = 0; j < 32; j++) {
                x[j] -= carry * ORDER[j];
            }
            for (int j = 0; j < 31; j++) {
                x[j + 1] += x[j] >> 8;
                out[at + j] = (byte) x[j];
            }
            out[at + 31] = (byte) x[31];
        }

        private void sha512(byte[] in, int n, byte[] out) {
            System.arraycopy(FIRST, 0, state, 0, 8);
            int rest = n & 127;
            int whole = n - rest;
            for (int i = 0; i < whole; i += 128) {
                compress(in, i);
            }
            Arrays.fill(tail, (byte) 0);
            System.arraycopy(in, whole, tail, 0, rest);
            tail[rest] = (byte) 128;
            int last = rest < 112 ? 0 : 128;
            Sha256.putWord(tail, last + 124, 8 * n);
            compress(tail, 0);
            if (last > 0) {
                compress(tail, last);
            }
            for (int i = 0; i < 8; i++) {
                Sha256.putWord(out, 8 * i, (int) (state[i] >>> 32));
                Sha256.putWord(out, 8 * i + 4, (int) state[i]);
            }
        }

        private void compress(byte[] in, int at) {
            long[] w = words;
            for (int i = 0; i < 16; i++) {
                w[i] = (long) Sha256.word(in, at + 8 * i) << 32 | Sha256.word(in, at + 8 * i + 4) & 0xffffffffL;
            }
            for (int i = 16; i < 80; i++) {
                long x = w[i - 15];
                long y = w[i - 2];
                w[i] = w[i - 16] + w[i - 7]
                        + ((x >>> 1 | x << 63) ^ (x >>> 8 | x << 56) ^ x >>> 7)
                        + ((y >>> 19 | y << 45) ^ (y >>> 61 | y << 3) ^ y >>> 6);
            }
            long a = state[0];
            long b = state[1];
            long c = state[2];
            long d = state[3];
            long e = state[4];
            long f = state[5];
            long g = state[6];
            long h = state[7];
            for (int i = 0; i < 80; i++) {
                long one = h + ((e >>> 14 | e << 50) ^ (e >>> 18 | e << 46) ^ (e >>> 41 | e << 23))
                        + (g ^ e & (f ^ g)) + ADDED[i] + w[i];
                long two = ((a >>> 28 | a << 36) ^ (a >>> 34 | a << 30) ^ (a >>> 39 | a << 25))
                        + (a & b | c & (a | b));
                h = g;
                g = f;
                f = e;
                e = d + one;
                d = c;
                c = b;
                b = a;
                a = one + two;
            }
            state[0] += a;
            state[1] += b;
            state[2] += c;
            state[3] += d;
            state[4] += e;
            state[5] += f;
            state[6] += g;
            state[7] += h;
        }
    }
}
