import java.util.ArrayList;
import java.util.Arrays;
import java.util.List;
import java.util.NoSuchElementException;
import java.util.Random;

/**
 * Random runs of calls, each held against the plain model: every answer, and now and then all of the normal
 * world's memory, the whole disk and the registers. This goes through all the promises 1 to 18; and nothing
 * but what the document names may be thrown.
 */
public final class ModelTest {
    private static final int[] TAKES = {1, 1, 1, 2, 2, 1, 2, 3, 4, 4, 2, 2, 0, 3, 0, 2, 0, 0, 2, 0, 5, 3, 3, 3, 4, 1,
        2, 0, 0, 0, 0, 3, 3};
    private static final int[] GIVES = {1, 1, 1, 0, 0, 1, 1, 0, 1, 2, 1, 2, 1, 0, 1, 0, 0, 1, 2, 1, 0, 0, 1, 0, 1, 0,
        2, 1, 1, 1, 1, 0, 0};
    /** What the words are that a SYS takes: addresses, sizes, names, parameters, applets, commands, any. */
    private static final String[] KINDS = {"i", "i", "i", "vi", "vi", "i", "ki", "vki", "andm", "andm", "dm", "dm", "",
        "ana", "", "an", "", "", "xy", "", "anana", "ana", "ana", "ana", "anaa", "a", "ka", "", "", "", "", "aaa",
        "ana"};

    private final Random random;
    private final long seed;
    private final TrustedMachine machine = new TrustedMachine();
    private final Model model = new Model();
    private final List<String> said = new ArrayList<>();
    private final List<byte[]> images = new ArrayList<>();
    private boolean curves;
    private boolean big;
    private int place;
    private int names;

    private ModelTest(long seed) {
        this.seed = seed;
        random = new Random(seed);
    }

    private static final class Wrong extends RuntimeException {
        private static final long serialVersionUID = 1;

        Wrong(String text) {
            super(text);
        }
    }

    public static void main(String[] args) {
        int from = args.length > 0 ? Integer.parseInt(args[0]) : 1;
        int to = args.length > 1 ? Integer.parseInt(args[1]) : 400;
        int wrong = 0;
        for (int seed = from; seed <= to && wrong < 5; seed++) {
            ModelTest test = new ModelTest(seed);
            try {
                test.run();
            } catch (Wrong e) {
                wrong++;
                test.tell(e.getMessage());
            } catch (RuntimeException e) {
                wrong++;
                test.tell("threw " + e);
                e.printStackTrace(System.out);
            }
        }
        System.out.println(wrong == 0 ? "all runs are as the model's" : wrong + " runs are not as the model's");
        if (wrong != 0) {
            System.exit(1);
        }
    }

    private void tell(String what) {
        System.out.println("run " + seed + ": " + what);
        for (int i = Math.max(0, said.size() - 12); i < said.size(); i++) {
            System.out.println("    " + said.get(i));
        }
    }

    private int pick(int n) {
        return random.nextInt(n);
    }

    private boolean chance(int percent) {
        return random.nextInt(100) < percent;
    }

    private int oneOf(int... of) {
        return of[pick(of.length)];
    }

    private int due(String call, int got, int want) {
        said.add(call + " = " + want);
        if (got != want) {
            throw new Wrong(call + " answered " + got + ", due is " + want);
        }
        return want;
    }

    private void due(String call, boolean got, boolean want) {
        due(call, got ? 1 : 0, want ? 1 : 0);
    }

    private void run() {
        curves = chance(12);
        big = chance(15);
        names = oneOf(2, 4, 16);
        place = oneOf(1100, 2200, 4000);
        fillRom();
        boot();
        bringIn();
        int rounds = 10 + pick(60);
        for (int i = 0; i < rounds; i++) {
            act();
            if (chance(5)) {
                compareAll();
            }
        }
        compareAll();
    }

    // ---- what is compared

    private void compareAll() {
        for (int at = 0; at < 8192; at++) {
            int want = model.load(at);
            if (machine.load(at) != want) {
                throw new Wrong("load(" + at + ") answered " + machine.load(at) + ", due is " + want);
            }
        }
        for (int b = 0; b < 64; b++) {
            for (int k = 0; k < 256; k++) {
                int got = machine.disk(b, k, 0);
                if (got != (model.disk[b][k] & 255)) {
                    throw new Wrong("disk(" + b + ", " + k + ", 0) answered " + got + ", due is "
                            + (model.disk[b][k] & 255));
                }
            }
        }
        for (int i = 0; i < 18; i++) {
            due("register(" + i + ")", machine.register(i), model.register(i));
        }
        due("isDown()", machine.isDown(), model.down);
    }

    private void feed(byte[] bytes) {
        for (int i = 0; i < bytes.length; i += 20) {
            byte[] part = Arrays.copyOfRange(bytes, i, i + 20);
            java.nio.ByteBuffer words = java.nio.ByteBuffer.wrap(part);
            int a = words.getInt();
            int b = words.getInt();
            int c = words.getInt();
            int d = words.getInt();
            int e = words.getInt();
            due("feed(" + a + ", " + b + ", " + c + ", " + d + ", " + e + ")", machine.feed(a, b, c, d, e),
                    model.feed(a, b, c, d, e));
        }
        end(bytes.length);
    }

    private void end(int n) {
        due("end(" + n + ")", machine.end(n), model.end(n));
    }

    private void storeBytes(int at, byte[] bytes) {
        if (model.tape.length > 0) {
            end(0);
        }
        feed(bytes);
        store(at);
    }

    private void store(int at) {
        due("store(" + at + ")", machine.store(at), model.store(at));
    }

    private int call(int number, int x, int y, int z) {
        int want = model.call(number, x, y, z);
        int got = machine.call(number, x, y, z);
        due("call(" + number + ", " + x + ", " + y + ", " + z + ")", got, want);
        for (int i = 0; i < 4; i++) {
            due("result(" + i + ")", machine.result(i), model.result(i));
        }
        return want;
    }

    private void boot() {
        due("boot()", machine.boot(), model.boot());
    }

    // ---- ROM

    private void fillRom() {
        if (chance(70)) {
            byte[] key = new byte[32 + pick(9)];
            random.nextBytes(key);
            feed(key);
            due("key()", machine.key(), model.key());
        }
        int entries = 1 + pick(chance(20) ? 10 : 4);
        for (int i = 0; i < entries; i++) {
            byte[] image = chance(3) && !images.isEmpty() ? images.get(0) : image();
            end(0);
            feed(image);
            int rights = chance(85) ? 7 : pick(9) - 1;
            int number = due("burn(" + rights + ")", machine.burn(rights), model.burn(rights));
            if (number >= 0) {
                images.add(image);
            }
        }
        end(chance(80) ? 0 : pick(30));
        for (int i = 0; i < images.size(); i++) {
            if (chance(40)) {
                int entry = chance(90) ? i : pick(12) - 2;
                int product = chance(90) ? pick(8) : oneOf(-1, 8);
                int version = chance(90) ? pick(4) : oneOf(-1, 9999, 10000);
                due("product(" + entry + ", " + product + ", " + version + ")",
                        machine.product(entry, product, version), model.product(entry, product, version));
            }
        }
    }

    private byte[] image() {
        int n = 2 + pick(4);
        Code[] commands = new Code[n];
        int begins = 0;
        for (int i = 0; i < n; i++) {
            commands[i] = command(begins);
            begins += commands[i].size();
        }
        byte[] image = Code.image(big ? 2 : chance(97) ? 1 + pick(4) : pick(7), commands);
        if (chance(3)) {
            image[pick(Math.min(6, image.length))] ^= (byte) (1 << pick(8));
        }
        return image.length > 1024 ? Arrays.copyOf(image, 1000) : image;
    }

    private Code command(int begins) {
        Code code = new Code(begins);
        if (chance(50)) {
            code.word(4 * pick(8), oneOf(0x41424344, 1, 0x10203, random.nextInt()));
        }
        int statements = 1 + pick(9);
        boolean deal = chance(30);
        if (deal) {
            code.sys(Code.BEGIN).op(Code.DROP);
        }
        for (int i = 0; i < statements; i++) {
            statement(code, deal);
        }
        if (deal && chance(80)) {
            code.sys(chance(85) ? Code.COMMIT : Code.UNDO);
        }
        if (chance(4)) {
            code.jump(Code.JUMP, begins + (chance(20) ? pick(3) : 0));
        }
        if (chance(97)) {
            code.op(Code.END);
        }
        return code;
    }

    private void statement(Code code, boolean deal) {
        int kind = pick(100);
        if (big && kind < 90) {
            code.word(4 * pick(12), random.nextInt());
            int n = oneOf(Code.PUT, Code.PUT, Code.PUT, Code.PUT, Code.DELETE, Code.GET);
            if (n == Code.DELETE) {
                code.push(4 * pick(12), 1 + pick(names)).sys(n);
            } else {
                code.sys(n, 0, oneOf(0, 1, 257, 500), 4 * pick(12), 1 + pick(names));
            }
            code.op(Code.DROP);
        } else if (deal || kind < 45) {
            sys(code, oneOf(8, 8, 8, 8, 9, 9, 10, 10, 11, 26), 70);
        } else if (kind < 60) {
            sys(code, oneOf(0, 1, 2, 3, 4, 5, 6, 7), 50);
        } else if (kind < 75) {
            sys(code, oneOf(12, 13, 14, 15, 17, 18, 18, 18, 19, 20, 21, 22, 30, 32), 70);
        } else if (kind < 77) {
            sys(code, pick(35), 50);
        } else if (kind < 84) {
            code.push(value(), value()).op(4 + pick(11));
        } else if (kind < 88) {
            code.push(value(), address(4)).op(oneOf(Code.STOREB, Code.STOREW));
        } else if (kind < 92) {
            code.push(address(4)).op(oneOf(Code.LOADB, Code.LOADW));
        } else if (kind < 94) {
            pairs(code);
        } else if (kind < 96) {
            code.push(pick(2)).jump(Code.JZERO, code.place() + 3 + oneOf(0, 1, 2, 6, 40));
        } else if (kind < 97) {
            code.jump(Code.CALL, code.place() + 3 + oneOf(0, 0, 0, 5, -3)).op(oneOf(Code.DUP, Code.RET, Code.DROP));
        } else if (kind < 98) {
            code.raw(pick(30), pick(256));
        } else if (curves) {
            signatures(code);
        }
    }

    /** SEAL and OPEN of the same bytes, sometimes with another nonce or another size. */
    private void pairs(Code code) {
        int a = pick(150);
        int n = oneOf(0, 1, 15, 16, 17, 63, 64, 65);
        int x = pick(200);
        code.sys(Code.SEAL, a, n, x);
        if (chance(20)) {
            code.push(value(), a + pick(n + 16)).op(Code.STOREB);
        }
        code.sys(Code.OPEN, a, chance(90) ? n : n + 1, chance(90) ? x : x + 1);
    }

    private void signatures(Code code) {
        int n = pick(40);
        int kind = pick(3);
        if (kind == 0) {
            code.sys(Code.SIGN, 0, n, 100).sys(Code.PUBLIC, 180);
            if (chance(40)) {
                code.push(value(), oneOf(0, 100 + pick(64), 180 + pick(32))).op(Code.STOREB);
            }
            code.sys(Code.VERIFY, 0, n, 180, 100);
        } else if (kind == 1) {
            code.sys(Code.AGREE, pick(100), pick(100), pick(200));
        } else {
            code.sys(Code.VERIFY, pick(100), n, pick(100), pick(100));
        }
    }

    private void sys(Code code, int n, int dropPercent) {
        if (n > 32) {
            code.sys(n);
            return;
        }
        if (!curves && (n >= 23 && n <= 25 || n == 31)) {
            return;
        }
        String kinds = KINDS[n];
        for (int i = 0; i < TAKES[n]; i++) {
            if (chance(1)) {
                continue;
            }
            switch (kinds.charAt(i)) {
                case 'a': code.push(address(16)); break;
                case 'd': code.push(chance(90) ? oneOf(0, 64, 64, 64) : address(16)); break;
                case 'n': code.push(chance(95) ? oneOf(0, 1, 12, 16, 32, 64, 100, 200, 255, 256) : oneOf(-1, 257, 512, 513, 2048, 2049)); break;
                case 'm': code.push(chance(97) ? 1 + pick(names) : oneOf(0, 17, -1)); break;
                case 'i': code.push(chance(95) ? pick(4) : oneOf(-1, 4)); break;
                case 'k': code.push(chance(90) ? pick(6) : oneOf(-1, 255, 256)); break;
                case 'x': code.push(chance(90) ? pick(Math.max(2, images.size() + 1)) : oneOf(-1, 8)); break;
                case 'y': code.push(chance(90) ? pick(3) : oneOf(-1, 8)); break;
                default: code.push(value()); break;
            }
        }
        code.sys(n);
        for (int i = 0; i < GIVES[n]; i++) {
            if (chance(dropPercent)) {
                code.op(Code.DROP);
            }
        }
    }

    private int address(int room) {
        return chance(93) ? 4 * pick(12) : oneOf(256 - room, 256 - room + 1, 240, 250, 256, 300, 500, 512, 1024, 2048, -1, -4);
    }

    private int value() {
        return chance(70) ? pick(40) : oneOf(-1, 31, 32, 33, Integer.MIN_VALUE, Integer.MAX_VALUE, random.nextInt());
    }

    // ---- what is done behind the boot

    private void act() {
        if (model.down && chance(80)) {
            boot();
            bringIn();
            return;
        }
        int kind = pick(100);
        if (kind < 14) {
            bringIn();
        } else if (kind < 60) {
            invoke();
        } else if (kind < 66) {
            call(13, pick(4), 0, 0);
        } else if (kind < 72) {
            editDisk();
        } else if (kind < 75) {
            int k = chance(70) ? pick(12) : -1;
            machine.power(k);
            model.power(k);
            said.add("power(" + k + ")");
        } else if (kind < 82) {
            program();
        } else if (kind < 86) {
            face();
        } else {
            otherCall();
        }
    }

    private void bringIn() {
        for (int i = 0; i < 6; i++) {
            call(1, chance(95) ? 16 + pick(8) : 8 + pick(16), 0, 0);
        }
        for (int i = 0; i < images.size(); i++) {
            if (chance(85)) {
                storeBytes(0, images.get(i));
                call(3, 0, images.get(i).length, 0);
                call(5, i, 0, 0);
            }
        }
    }

    private void invoke() {
        int z = chance(90) ? place : oneOf(2040, 8150, -1, 8192, 1990);
        if (chance(70)) {
            storeBytes(z, parameters());
        }
        if (chance(25)) {
            call(12, chance(50) ? 0 : oneOf(1, 2, 3, 5, 10, 50, 200, 20000), 0, 0);
        }
        int times = 1 + pick(4);
        for (int i = 0; i < times; i++) {
            int code = call(7, chance(95) ? pick(3) : pick(18) - 1, chance(95) ? pick(3) : pick(11) - 1, z);
            if (code == 9 && chance(80)) {
                if (chance(30)) {
                    call(1, chance(50) ? place / 256 : 8 + pick(16), 0, 0);
                    call(4, pick(4), 0, 0);
                }
                call(13, pick(3), 0, 0);
            }
            if (code == 5) {
                call(5, pick(Math.max(1, images.size())), 0, 0);
            }
        }
    }

    private byte[] parameters() {
        java.nio.ByteBuffer b = java.nio.ByteBuffer.allocate(48).order(java.nio.ByteOrder.LITTLE_ENDIAN);
        for (int i = 0; i < 4; i++) {
            int sort = chance(99) ? pick(7) : oneOf(7, -1, 256);
            b.putInt(sort);
            if (sort >= 4) {
                b.putInt(chance(96) ? place + 100 + pick(500) : oneOf(-1, 2040, 8000, 8192, place + pick(48), 2048 + pick(4000)));
                b.putInt(chance(96) ? pick(9) : oneOf(0, 255, 256, 257, -1));
            } else {
                b.putInt(random.nextInt());
                b.putInt(pick(300));
            }
        }
        return b.array();
    }

    private void editDisk() {
        int block = pick(chance(80) ? 24 : 66) - (chance(5) ? 1 : 0);
        int k = chance(97) ? pick(256) : oneOf(-1, 256);
        int mask = oneOf(1, 255, 256, random.nextInt());
        if (chance(25)) {
            due("replay(" + block + ")", machine.replay(block), model.replay(block));
            return;
        }
        int times = chance(75) ? 2 : 1;
        for (int i = 0; i < times; i++) {
            disk(block, k, mask);
            if (i == 0 && times == 2) {
                invoke();
                call(10, pick(8), 0, 0);
            }
        }
    }

    private void disk(int block, int k, int mask) {
        int want;
        try {
            want = model.disk(block, k, mask);
        } catch (NoSuchElementException e) {
            want = -99;
        }
        int got;
        try {
            got = machine.disk(block, k, mask);
        } catch (NoSuchElementException e) {
            got = -99;
        }
        due("disk(" + block + ", " + k + ", " + mask + ")", got, want);
    }

    private void program() {
        byte[] program = new byte[4 * (1 + pick(20))];
        for (int i = 0; i < program.length; i += 4) {
            int code = chance(95) ? pick(21) : pick(256);
            program[i] = (byte) code;
            program[i + 1] = (byte) (chance(90) ? pick(6) : pick(256));
            boolean jumps = code >= 16 && code <= 18;
            int wide = jumps ? pick(9) - 3 : code == 20 ? oneOf(0, 1, 5, 7, 9, 10, 11, 13, 99) : oneOf(pick(8), pick(2000), random.nextInt());
            program[i + 2] = (byte) (chance(80) || jumps || code == 20 ? wide >> 8 : pick(6));
            program[i + 3] = (byte) wide;
        }
        int at = chance(90) ? 3000 : oneOf(2030, 8180, 6100);
        storeBytes(at, program);
        int to = chance(95) ? at : oneOf(-1, -4, 8189, 8188, Integer.MAX_VALUE, Integer.MIN_VALUE);
        due("go(" + to + ")", machine.go(to), model.go(to));
        for (int i = 0; i < 2; i++) {
            int n = chance(90) ? pick(40) : oneOf(-1, 0, 1000, 1001);
            due("walk(" + n + ")", machine.walk(n), model.walk(n));
            for (int k = 0; k < 18; k++) {
                due("register(" + k + ")", machine.register(k), model.register(k));
            }
            for (int k = 0; k < 4; k++) {
                due("result(" + k + ")", machine.result(k), model.result(k));
            }
        }
    }

    private void face() {
        int at = oneOf(0, -1, 8191, 8192, 6143, 6144, 2048, 2047, Integer.MAX_VALUE, Integer.MIN_VALUE);
        due("load(" + at + ")", machine.load(at), model.load(at));
        if (chance(30)) {
            end(oneOf(0, -1, 5, 1101, Integer.MAX_VALUE));
        }
        if (chance(30)) {
            store(at);
        }
        if (chance(20)) {
            boot();
        }
        due("burn(7)", machine.burn(7), model.burn(7));
        due("key()", machine.key(), model.key());
        due("product(0, 0, 0)", machine.product(0, 0, 0), model.product(0, 0, 0));
    }

    private void otherCall() {
        int number = chance(95) ? oneOf(0, 1, 2, 3, 4, 4, 5, 6, 6, 8, 8, 9, 10, 10, 10, 11, 12, 14, 14, 14) : oneOf(-1, 17, 18, Integer.MAX_VALUE);
        if (curves && chance(20)) {
            number = oneOf(15, 16);
        }
        int x = chance(80) ? pick(9) : oneOf(-1, 16, 23, 24, 100, 1000, 2000, 20000, 20001, Integer.MAX_VALUE, Integer.MIN_VALUE);
        int y = chance(80) ? pick(100) : oneOf(-1, 0, 1024, 1025, 8192, Integer.MAX_VALUE);
        int z = chance(80) ? 1000 : oneOf(-1, 8192, 8160, 2040, 2016, Integer.MAX_VALUE, Integer.MIN_VALUE);
        call(number, x, y, z);
    }
}
