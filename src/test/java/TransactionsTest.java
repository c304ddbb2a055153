import java.util.Arrays;

/** Promise 10, Part IV: transactions. */
public final class TransactionsTest {
    /** Three names of one NODE and two of others; each stands at 4 times its index. */
    private static final String NAMES = "ahobcLSZEv";

    private TransactionsTest() {
    }

    public static void main(String[] args) {
        beginAndEnd();
        noted();
        commit();
        order();
        full();
        nothingToDo();
        corrupt();
        askedOnes();
        ends();
        cuts();
        Check.finish();
    }

    private static Code code() {
        return code(0);
    }

    /** A code that begins with the names in their places; 100 .. 103 are bytes to put. */
    private static Code code(int begins) {
        Code c = new Code(begins);
        for (int i = 0; i < NAMES.length(); i++) {
            c.push(NAMES.charAt(i), 4 * i).op(Code.STOREB);
        }
        return c.word(100, 0x04030201);
    }

    private static Code put(Code c, int name, int n) {
        return c.sys(Code.PUT, 100, n, 4 * name, 1);
    }

    private static Code drop(Code c) {
        return c.op(Code.DROP);
    }

    /** Adds the code on the stack's top as one decimal digit more of the word at 200. */
    private static Code tell(Code c) {
        return c.push(200).op(Code.LOADW).push(10).op(Code.MUL, Code.ADD).push(200).op(Code.STOREW);
    }

    /** Ends with the digits that were told. */
    private static Code ends(Code c) {
        return c.push(200).op(Code.LOADW, Code.END);
    }

    private static Code told(Code c, int sys, int... words) {
        c.sys(sys, words);
        if (sys == Code.GET || sys == Code.HAS) {
            tell(c.op(Code.SWAP));
        }
        return tell(c);
    }

    private static void beginAndEnd() {
        Code c = code();
        told(c, Code.COMMIT);
        told(c, Code.UNDO);
        told(c, Code.BEGIN);
        told(c, Code.BEGIN);
        told(c, Code.UNDO);
        told(c, Code.UNDO);
        told(c, Code.BEGIN);
        told(c, Code.COMMIT);
        told(c, Code.COMMIT);
        Check.due("BEGIN, COMMIT and UNDO", Rig.with(1, ends(c)).invoke(0, 0), "ends 770807007");
    }

    private static void noted() {
        Code c = code();
        drop(put(c, 0, 2));
        told(c, Code.BEGIN);
        told(c, Code.HAS, 0, 1);
        told(c, Code.PUT, 100, 4, 0, 1);
        told(c, Code.HAS, 0, 1);
        told(c, Code.DELETE, 0, 1);
        told(c, Code.HAS, 0, 1);
        Rig rig = Rig.with(1, ends(c));
        Check.due("what is noted is told", rig.invoke(0, 0), "ends 2004070");
        Check.due("nothing of it is done", rig.count(), 1);

        Code d = code();
        d.sys(Code.BEGIN).op(Code.DROP);
        told(d, Code.DELETE, 0, 1);
        told(d, Code.PUT, 100, 3, 0, 1);
        told(d, Code.DELETE, 0, 1);
        told(d, Code.DELETE, 0, 1);
        told(d, Code.PUT, 100, 1, 0, 1);
        told(d, Code.GET, 120, 4, 0, 1);
        d.push(120).op(Code.LOADW);
        tell(d);
        Rig other = Rig.with(1, ends(d));
        Check.due("DELETE by what is noted", other.invoke(0, 0), "ends 70070011");
        Check.due("KEPT", other.kept(0), "0 0 0");

        Code four = code();
        drop(put(four, 5, 1));
        four.sys(Code.BEGIN).op(Code.DROP);
        for (int i = 0; i < 5; i++) {
            told(four, Code.PUT, 100, i, 4 * i, 1);
        }
        told(four, Code.PUT, 100, 4, 4, 1);
        told(four, Code.DELETE, 20, 1);
        told(four, Code.DELETE, 24, 1);
        told(four, Code.COMMIT);
        Rig many = Rig.with(1, ends(four));
        Check.due("four at most, and 7 comes ahead of that", many.invoke(0, 0), "ends 40470");
        Check.due("KEPT", many.kept(0).startsWith("5 5 "), true);
    }

    private static Code commits(int... notes) {
        Code c = code();
        c.sys(Code.BEGIN).op(Code.DROP);
        for (int n : notes) {
            if (n < 0) {
                c.sys(Code.DELETE, 4 * (-n - 1), 1).op(Code.DROP);
            } else {
                drop(put(c, n % 100, n / 100));
            }
        }
        return c.sys(Code.COMMIT).op(Code.END);
    }

    private static void commit() {
        Rig rig = Rig.with(1, commits(100, 201, 303, 4));
        Check.due("COMMIT", rig.invoke(0, 0), "ends 0");
        Check.due("one COUNT", rig.count(), 1);
        // three of one byte and more, one of none: 3 DATA, 4 OBJECTS; NODES of a and h, of b, of c; the ROOT
        Check.due("KEPT", rig.kept(0), "4 4 11");
        int[] kinds = {'D', 'O', 'D', 'O', 'D', 'O', 'O', 'N', 'N', 'N', 'R'};
        String[] names = {"", "a", "", "h", "", "b", "c"};
        for (int i = 0; i < kinds.length; i++) {
            byte[] b = rig.block(i);
            if (kinds[i] == 'O') {
                Check.due("OBJECT " + i, String.valueOf((char) b[2]), names[i]);
                Check.due("its NUMBER", b[27], 1);
            }
        }
        int[] places = {7, 0, 8, 33, 9, 198};
        for (int i = 0; i < 3; i++) {
            Check.due("the NODES by their place", rig.machine.disk(10, places[2 * i + 1], 0), places[2 * i]);
        }
        Check.due("DATA of the first", rig.machine.disk(1, 28, 0), 0);
        Check.due("again", rig.invoke(0, 0), "ends 0");
        Check.due("all anew", rig.kept(0), "4 4 11");
        Check.due("behind the others", rig.machine.disk(12, 27, 0), 2);
    }

    /** In the order of what was noted first: a place that a DELETE frees is there for a later PUT only. */
    private static void order() {
        Code fill = code();
        for (int i : new int[] {0, 1, 2, 5, 6, 7, 8}) {
            drop(put(fill, i, 0));
        }
        fill.end();
        Code later = new Code(fill.size());
        later.sys(Code.BEGIN).op(Code.DROP).sys(Code.DELETE, 4, 1).op(Code.DROP);
        drop(put(later, 9, 1)).sys(Code.COMMIT).op(Code.END);
        Code earlier = new Code(fill.size() + later.size());
        earlier.sys(Code.BEGIN).op(Code.DROP);
        drop(put(earlier, 9, 1)).sys(Code.DELETE, 4, 1).op(Code.DROP).sys(Code.COMMIT).op(Code.END);
        Rig rig = Rig.with(1, fill, later, earlier);
        rig.invoke(0, 0);
        Check.due("the NODE is full", rig.kept(0), "7 7 9");
        Check.due("PUT ahead of DELETE", rig.invoke(0, 2), "ends 4");
        Check.due("nothing is done", rig.count(), 7);
        Check.due("DELETE ahead of PUT", rig.invoke(0, 1), "ends 0");
        Check.due("KEPT", rig.kept(0), "7 7 10");
        Rig twice = Rig.with(1, commits(100, 201, -1, 302, 100));
        Check.due("a name keeps its place among the notes", twice.invoke(0, 0), "ends 0");
        Check.due("so its OBJECT is the first", twice.machine.disk(1, 2, 0), 'a');
        Check.due("with its latest size", twice.machine.disk(1, 19, 0), 1);
        Check.due("the second", twice.machine.disk(3, 2, 0), 'h');
        Check.due("the third", twice.machine.disk(5, 2, 0), 'o');
    }

    private static void full() {
        Code fill = code();
        for (int i : new int[] {0, 1, 2, 5, 6, 7, 8}) {
            drop(put(fill, i, 0));
        }
        fill.end();
        Code commit = new Code(fill.size());
        commit.sys(Code.BEGIN).op(Code.DROP);
        drop(put(commit, 9, 0));
        commit.sys(Code.COMMIT).push(10).op(Code.MUL).sys(Code.UNDO).op(Code.ADD, Code.END);
        Rig rig = Rig.with(1, fill, commit);
        rig.invoke(0, 0);
        Check.due("COMMIT to a full NODE is 4, and ends it", rig.invoke(0, 1), "ends 47");
        Check.due("COUNT", rig.count(), 7);
    }

    private static void nothingToDo() {
        Rig rig = Rig.with(1, commits(), commitsAt(commits().size()));
        rig.machine.power(0);
        Check.due("COMMIT of nothing", rig.invoke(0, 0), "ends 0");
        Check.due("COMMIT of a PUT and its DELETE", rig.invoke(0, 1), "ends 0");
        Check.due("no WRITE", rig.machine.isDown(), false);
        Check.due("COUNT", rig.count(), 0);
    }

    private static Code commitsAt(int begins) {
        Code c = code(begins);
        c.sys(Code.BEGIN).op(Code.DROP);
        drop(put(c, 0, 1)).sys(Code.DELETE, 0, 1).op(Code.DROP).sys(Code.COMMIT);
        return c.op(Code.END);
    }

    private static void corrupt() {
        Code puts = code();
        drop(put(puts, 0, 1));
        drop(put(puts, 3, 1)).end();
        Code c = new Code(puts.size());
        told(c, Code.BEGIN);
        told(c, Code.DELETE, 0, 1);
        told(c, Code.DELETE, 12, 1);
        told(c, Code.PUT, 100, 1, 12, 1);
        told(c, Code.COMMIT);
        told(c, Code.UNDO);
        ends(c);
        Code empty = new Code(puts.size() + c.size()).sys(Code.BEGIN).op(Code.DROP).sys(Code.COMMIT).op(Code.END);
        Rig rig = Rig.with(1, puts, c, empty);
        rig.invoke(0, 0);
        int object = -1;
        for (int i = 0; i < 10; i++) {
            byte[] b = rig.block(i);
            object = b[1] == 1 && b[2] == 'b' ? i : object;
        }
        rig.machine.disk(object, 250, 1);
        Check.due("DELETE of what is whole, of what is not, PUT, COMMIT, UNDO", rig.invoke(0, 1), "ends 6067");
        Check.due("COMMIT of nothing looks at the tree, too", rig.invoke(0, 2), "ends 6");
        rig.machine.disk(object, 250, 1);
        Check.due("nothing is changed", rig.kept(0), "2 2 7");
    }

    /** A transaction is the applet's that began it, and the session's. */
    private static void askedOnes() {
        Code first = code();
        told(first, Code.BEGIN);
        told(first, Code.PUT, 100, 1, 0, 1);
        first.sys(Code.ASK, 1, 0);
        tell(first);
        tell(first);
        told(first, Code.HAS, 0, 1);
        told(first, Code.COMMIT);
        Code second = code();
        told(second, Code.HAS, 0, 1);
        told(second, Code.BEGIN);
        told(second, Code.COMMIT);
        told(second, Code.PUT, 100, 2, 0, 1);
        told(second, Code.HAS, 0, 1);
        byte[] one = Code.image(1, ends(first));
        byte[] two = Code.image(1, ends(second));
        Rig rig = new Rig();
        rig.burn(one, 7);
        rig.burn(two, 7);
        rig.machine.product(1, 0, 0);
        rig.machine.product(0, 3, 0);
        rig.start();
        rig.bringIn(one);
        rig.bringIn(two);
        rig.open(0);
        // the asked one tells HAS 7 0, BEGIN 8, COMMIT 7, PUT 0, HAS 0 2; then the asker ASK 0, HAS 0 1, COMMIT 0
        Check.due("the asker's one", rig.invoke(0, 0), "ends " + (7087002 * 10000 + 10));
        Check.due("both are kept", rig.kept(0), "1 2 7");
        Check.due("KEPT of the asker", rig.kept(3), "1 2 7");

        Code begins = code();
        begins.sys(Code.BEGIN).op(Code.DROP);
        drop(put(begins, 0, 1)).end();
        Code asks = code().sys(Code.ASK, 1, 0).op(Code.DROP, Code.DROP);
        told(asks, Code.BEGIN);
        told(asks, Code.COMMIT);
        byte[] three = Code.image(1, ends(asks));
        byte[] four = Code.image(1, begins);
        Rig over = new Rig();
        over.burn(three, 7);
        over.burn(four, 7);
        over.start();
        over.bringIn(three);
        over.bringIn(four);
        over.open(0);
        Check.due("an asked one's ends with its run", over.invoke(0, 0), "ends 0");
        Check.due("nothing of it is done", over.count(), 0);
    }

    private static void ends() {
        Code begins = code();
        begins.sys(Code.BEGIN).op(Code.DROP);
        drop(put(begins, 0, 1)).end();
        Code commits = new Code(begins.size()).sys(Code.COMMIT).op(Code.END);
        Code faults = new Code(begins.size() + commits.size()).sys(Code.BEGIN).op(Code.DROP);
        drop(put(faults, 0, 1)).sys(Code.PANIC);
        Rig rig = Rig.with(1, begins, commits, faults);
        rig.invoke(0, 0);
        Check.due("it ends with the run", rig.invoke(0, 1), "ends 7");
        rig.invoke(0, 2);
        rig.open(0);
        Check.due("and with a fault", rig.invoke(0, 1), "ends 7");
        rig.machine.call(12, 26, 0, 0);
        Check.due("in the midst", rig.invoke(0, 0), "code 9");
        rig.machine.call(6, 0, 0, 0);
        rig.open(0);
        rig.machine.call(12, 0, 0, 0);
        Check.due("and with the session", rig.invoke(0, 1), "ends 7");
        Check.due("nothing is done", rig.count(), 0);

        Code slow = code();
        slow.sys(Code.BEGIN).op(Code.DROP);
        drop(put(slow, 0, 1)).sys(Code.COMMIT).op(Code.END);
        Rig slices = Rig.with(1, slow);
        slices.machine.call(12, 3, 0, 0);
        String answer = slices.invoke(0, 0);
        for (int i = 0; i < 40 && answer.equals("code 9"); i++) {
            answer = slices.resume(0);
        }
        Check.due("it goes on from slice to slice", answer, "ends 0");
        Check.due("and is done", slices.kept(0), "1 1 4");
    }

    /** Whatever the power lasts for: behind it all of a transaction is done, or nothing. */
    private static void cuts() {
        for (int k = 0; k <= 12; k++) {
            Code first = commits(100, 201, 303, 4);
            Code second = code(first.size());
            second.sys(Code.BEGIN).op(Code.DROP).sys(Code.DELETE, 0, 1).op(Code.DROP);
            drop(put(second, 1, 3));
            drop(put(second, 2, 4)).sys(Code.COMMIT).op(Code.END);
            Rig rig = Rig.with(1, first, second);
            rig.invoke(0, 0);
            byte[][] before = new byte[64][];
            for (int i = 0; i < 64; i++) {
                before[i] = rig.block(i);
            }
            rig.machine.power(k);
            // DATA and OBJECT of two, their NODE, the ROOT and the CELL
            Check.due("COMMIT with power for " + k, rig.invoke(0, 1), k < 7 ? "code -1" : "ends 0");
            int written = 0;
            for (int i = 0; i < 64; i++) {
                written += Arrays.equals(before[i], rig.block(i)) ? 0 : 1;
            }
            Check.due("blocks written with power for " + k, written, Math.min(k, 6));
            Check.due("boot", rig.machine.boot(), k < 7);
            Check.due("COUNT with power for " + k, rig.count(), k < 7 ? 1 : 2);
            Check.due("KEPT with power for " + k, rig.kept(0), "4 4 11");
        }
    }
}
