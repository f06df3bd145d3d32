import java.util.ArrayList;
import java.util.List;

/** One test for each promise of the document, with answers worked out by hand. */
public final class HotPanLocksPromisesTest {
    private interface Call {
        long answer();
    }

    private static final Class<?> INDEX = IndexOutOfBoundsException.class;
    private static final Class<?> ARGUMENT = IllegalArgumentException.class;
    private static final Class<?> STATE = IllegalStateException.class;
    private static final int[] WILD = {Integer.MIN_VALUE, -1, Integer.MAX_VALUE};

    private static String promise = "";
    private static int wrong = 0;

    private static void due(String what, long got, long want) {
        if (got != want) {
            wrong++;
            System.out.println(promise + ": " + what + " answered " + got + ", due is " + want);
        }
    }

    private static void dueExactly(String what, double got, double want) {
        due(what, Double.doubleToRawLongBits(got), Double.doubleToRawLongBits(want));
    }

    /** The call throws exactly this, and changes nothing. */
    private static void thrown(HotPanLocks x, String what, Class<?> kind, Call call) {
        long before = x.digest();
        Class<?> got = null;
        try {
            call.answer();
        } catch (RuntimeException e) {
            got = e.getClass();
        }
        if (got != kind) {
            wrong++;
            System.out.println(promise + ": " + what + " threw " + got + ", due is " + kind);
        }
        due(what + ", digest after it", x.digest(), before);
    }

    private static HotPanLocks type(HotPanLocks x, String text) {
        for (int i = 0; i < text.length(); i++) {
            x.append(text.charAt(i));
        }
        return x;
    }

    private static HotPanLocks typed(String text) {
        return type(new HotPanLocks(), text);
    }

    /** Carries out requests; all of them must be carried out. */
    private static HotPanLocks did(HotPanLocks x, String text) {
        due("requests in " + text, type(x, text).run(), text.split(",").length);
        return x;
    }

    private static HotPanLocks after(String text) {
        return did(new HotPanLocks(), text);
    }

    private static String queue(HotPanLocks x, int row) {
        StringBuilder s = new StringBuilder();
        for (int place = 0; place < 8 && x.request(row, place, 0) != HotPanLocks.NONE; place++) {
            s.append((char) ('a' + x.request(row, place, 0))).append(x.request(row, place, 1));
        }
        return s.toString();
    }

    private static void dueQueue(HotPanLocks x, int row, String want) {
        String got = queue(x, row);
        if (!got.equals(want)) {
            wrong++;
            System.out.println(promise + ": the queue of row " + row + " is " + got + ", due is " + want);
        }
    }

    // ---- locks

    private static void aNewObject() {
        HotPanLocks x = new HotPanLocks();
        due("NONE", HotPanLocks.NONE, -1);
        for (int hand = 0; hand < 8; hand++) {
            for (int what = 0; what <= 8; what++) {
                due("hand", x.hand(hand, what), what == 2 ? -1 : 0);
            }
            for (int row = 0; row < 12; row++) {
                due("lock", x.lock(hand, row), 0);
            }
            due("waitsFor", x.waitsFor(hand), 0);
        }
        for (int row = 0; row < 12; row++) {
            for (int what = 0; what <= 5; what++) {
                due("row", x.row(row, what), what == 5 ? -1 : 0);
            }
        }
        for (int what = 0; what <= 9; what++) {
            due("count", x.count(what), 0);
        }
        due("firstError", x.firstError(), 0);
        due("clearBuffer", x.clearBuffer(), 0);
        due("heat that is borne", x.setting(0), 60);
        due("heating", x.setting(1), 1);
        due("cooling", x.setting(2), 2);
    }

    private static void ask() {
        HotPanLocks x = new HotPanLocks();
        due("peek", x.ask(0, 0, 1), 0);
        due("stir beside peek", x.ask(1, 0, 2), 0);
        due("peek beside stir", x.ask(2, 0, 1), 0);
        due("a second stir", x.ask(3, 0, 2), 1);
        due("peek behind it", x.ask(4, 0, 1), 1);
        dueQueue(x, 0, "d2e1");
        due("the same mode again", x.ask(1, 0, 2), 0);
        due("a lesser mode", x.ask(1, 0, 1), 0);
        due("kept mode", x.lock(1, 0), 2);
        due("granted by nothing to do", x.hand(1, 7), 3);
        due("asked", x.hand(1, 8), 3);
        due("hold", x.ask(5, 11, 3), 0);
        due("peek against hold", x.ask(6, 11, 1), 1);
        due("saved", x.count(9), 6);

        for (int wild : WILD) {
            thrown(x, "no such hand", INDEX, () -> x.ask(wild, 0, 1));
            thrown(x, "no such row", INDEX, () -> x.ask(0, wild, 0));
            thrown(x, "no such mode", ARGUMENT, () -> x.ask(3, 0, wild));
        }
        thrown(x, "hand 8", INDEX, () -> x.ask(8, 0, 4));
        thrown(x, "row 12", INDEX, () -> x.ask(3, 12, 4));
        thrown(x, "mode 0", ARGUMENT, () -> x.ask(3, 0, 0));
        thrown(x, "mode 4", ARGUMENT, () -> x.ask(3, 0, 4));
        thrown(x, "waits", STATE, () -> x.ask(3, 5, 1));
        HotPanLocks y = after("h0p,a5h,h5p");
        thrown(y, "waits, and has a lock", STATE, () -> y.ask(7, 0, 1));
    }

    private static void askForMore() {
        HotPanLocks x = after("a0p");
        due("stronger, alone", x.ask(0, 0, 3), 0);
        due("in place of the lesser one", x.lock(0, 0), 3);
        due("still one lock", x.hand(0, 0), 1);
        due("granted", x.hand(0, 7), 2);

        HotPanLocks y = after("a1p,b1p,e1s,c1h,d1p");
        dueQueue(y, 1, "c3d1");
        due("a second stir goes ahead", y.ask(0, 1, 2), 1);
        dueQueue(y, 1, "a2c3d1");
        due("it keeps the lesser lock", y.lock(0, 1), 1);
        due("it waits for e's lock alone", y.hand(0, 4), 16);
        HotPanLocks z = after("a1p,b1p,c1h");
        due("stir beside peek needs no turn", z.ask(0, 1, 2), 0);
    }

    private static void askForMoreBehindHolders() {
        HotPanLocks x = after("a0p,b0p,c0s,d0p,e0p");
        did(x, "a0s");
        did(x, "d0s");
        dueQueue(x, 0, "a2d2");
        did(x, "f0h");
        did(x, "b0s");
        dueQueue(x, 0, "a2d2b2f3");
        due("b waits for c and those ahead", x.hand(1, 4), 1 | 4 | 8);
        due("f waits for all", x.hand(5, 4), 1 | 2 | 4 | 8 | 16);
        due("c lets go", x.release(2, 0), 1);
        dueQueue(x, 0, "d2b2f3");
        due("a stirs", x.lock(0, 0), 2);
    }

    private static void rings() {
        HotPanLocks x = after("a0h,b1h,a1p");
        due("the ring has equal work, the greatest number loses", x.ask(1, 0, 1), 2);
        due("b lost", x.hand(1, 6), 1);
        due("b has nothing", x.hand(1, 0), 0);
        due("b does not wait", x.hand(1, 2), -1);
        due("a has row 1", x.lock(0, 1), 1);
        due("lost in all", x.count(4), 1);

        HotPanLocks y = after("a0h,b1h,b2p,a1p");
        due("the least work loses", y.ask(1, 0, 1), 0);
        due("a lost", y.hand(0, 6), 1);
        due("a has nothing", y.hand(0, 0), 0);
        due("b has row 0", y.lock(1, 0), 1);
        due("work, not locks: three peeks against a hold and a peek",
                after("a0h,a5p,b1p,b2p,b3p,a1h").ask(1, 0, 1), 2);

        HotPanLocks z = after("d0h,c1h,d1h,f1p,g2h,c5p");
        due("only the ring's hands lose: f waits for c and d, but is in no ring", z.ask(2, 0, 1), 0);
        due("d lost", z.hand(3, 6), 1);
        due("f did not lose", z.hand(5, 6), 0);
        due("f still waits, for c alone", z.hand(5, 4), 4);
        due("in a queue a request ahead is in the ring: f loses, then d",
                after("d0h,c1h,d1h,f0p").ifAsked(2, 0, 1, 1), 2);
    }

    private static void longRings() {
        HotPanLocks x = after("a0h,b1h,c2h,d3h,a1p,b2p,c3p");
        due("over others", x.waitsFor(0), 14);
        due("d closes the ring of four and loses", x.ask(3, 0, 1), 2);
        due("c has row 3", x.lock(2, 3), 1);
        due("a still waits", x.hand(0, 2), 1);

        HotPanLocks y = after("a0h,b1h,c1p,b0p");
        due("two lose, one after the other: c with no work, then b", y.ask(0, 1, 3), 0);
        due("c lost", y.hand(2, 6), 1);
        due("b lost", y.hand(1, 6), 1);
        due("lost in all", y.count(4), 2);
        due("a has both", y.hand(0, 1), 6);

        HotPanLocks z = after("a0p,b0p,a0h");
        due("two that would be stronger", z.ask(1, 0, 3), 2);
        due("a has it", z.lock(0, 0), 3);
    }

    private static void loserFreesRows() {
        HotPanLocks x = after("a0h,h1h,h5p,h11p,a9h,c5h,d9h,b11h,h0p,g0p");
        due("g waits for a and h", x.hand(6, 4), 1 | 128);
        due("a asks, h loses", x.ask(0, 1, 1), 0);
        due("c got row 5 of h", x.lock(2, 5), 3);
        due("b got row 11 of h", x.lock(1, 11), 3);
        due("h's request is gone: g waits for a", x.hand(6, 4), 1);
        due("d still waits for a", x.hand(3, 4), 1);
        due("h has nothing", x.hand(7, 1), 0);
        due("granted: five at once, three by the loss", x.count(6), 5 + 3);
    }

    private static void release() {
        HotPanLocks x = after("a0h,b0p,c0s,d0p,e0h,f0p");
        due("three are granted", x.release(0, 0), 3);
        due("holders", x.row(0, 2), 14);
        dueQueue(x, 0, "e3f1");
        due("none is granted", x.release(1, 0), 0);
        did(x, "b5p");
        did(x, "b2p");
        due("one that waits for another row can do so", did(x, "a6h,b6p").release(1, 5), 0);
        due("saved as one each", x.count(9), 6);
        thrown(x, "no lock", STATE, () -> x.release(0, 1));
        thrown(x, "waits for it, without a lock", STATE, () -> x.release(1, 6));
        HotPanLocks y = after("a0p,b0p,a0h");
        thrown(y, "waits for it, with a lock", STATE, () -> y.release(0, 0));
        due("another holder can", y.release(1, 0), 1);
        due("the stronger one", y.lock(0, 0), 3);
        for (int wild : WILD) {
            thrown(y, "no such hand", INDEX, () -> y.release(wild, 0));
            thrown(y, "no such row", INDEX, () -> y.release(0, wild));
        }
        thrown(y, "hand 8", INDEX, () -> y.release(8, 0));
        thrown(y, "row 12", INDEX, () -> y.release(0, 12));
    }

    private static void giveUp() {
        HotPanLocks x = after("a7p,b7h,c7p,d7s");
        due("the row", x.giveUp(1), 7);
        due("the row is settled", x.row(7, 2), 1 | 4 | 8);
        due("no longer waits", x.hand(1, 2), -1);
        due("no mode either", x.hand(1, 3), 0);
        due("not granted", x.hand(1, 7), 0);
        due("undoable", x.undo(), 1);
        dueQueue(x, 7, "b3c1d2");
        due("from the middle", x.giveUp(2), 7);
        dueQueue(x, 7, "b3d2");
        thrown(x, "does not wait", STATE, () -> x.giveUp(0));
        for (int wild : WILD) {
            thrown(x, "no such hand", INDEX, () -> x.giveUp(wild));
        }
        thrown(x, "hand 8", INDEX, () -> x.giveUp(8));
    }

    private static void handOn() {
        HotPanLocks x = after("a0h,b0h,c0p,d0s,e0p");
        due("out of turn", x.handOn(0, 0, 3), 2);
        due("d has it alone, for b is first", x.row(0, 2), 8);
        dueQueue(x, 0, "b3c1e1");
        due("handed on", x.row(0, 4), 1);
        due("in all", x.count(5), 1);
        due("granted", x.hand(3, 7), 1);
        due("to b", x.handOn(3, 0, 1), 3);
        due("twice", x.row(0, 4), 2);
        due("to c; then the row is settled", x.handOn(1, 0, 2), 1);
        due("c and e", x.row(0, 2), 4 | 16);
        due("undoable", x.undo(), 3);
        due("b again", x.row(0, 2), 2);
        due("counted so far", x.count(5), 2);

        HotPanLocks y = after("a0p,b0p,c0s,b0s,d0h,f1h,c1p");
        due("c waits elsewhere and hands on to a holder", y.handOn(2, 0, 1), 2);
        due("b stirs, a peeks", y.row(0, 2), 3);
        due("a's lock stays", y.lock(0, 0), 1);
    }

    private static void handOnThrows() {
        HotPanLocks x = after("a0p,b0p,c0h,b0h,d1h,e1p");
        thrown(x, "no lock", STATE, () -> x.handOn(3, 0, 2));
        thrown(x, "e waits for another row", STATE, () -> x.handOn(0, 0, 4));
        thrown(x, "waits for it itself", STATE, () -> x.handOn(1, 0, 2));
        thrown(x, "clashes with a third one", STATE, () -> x.handOn(0, 0, 2));
        thrown(x, "the same one", STATE, () -> x.handOn(0, 0, 0));
        thrown(x, "does not wait", STATE, () -> x.handOn(0, 0, 5));
        for (int wild : WILD) {
            thrown(x, "no such hand", INDEX, () -> x.handOn(wild, 0, 1));
            thrown(x, "no such row", INDEX, () -> x.handOn(0, wild, 1));
            thrown(x, "no such other", INDEX, () -> x.handOn(0, 0, wild));
        }
        thrown(x, "hand 8", INDEX, () -> x.handOn(8, 0, 1));
        thrown(x, "row 12", INDEX, () -> x.handOn(0, 12, 1));
        thrown(x, "other 8", INDEX, () -> x.handOn(0, 0, 8));
        due("to b it can", x.handOn(0, 0, 1), 3);
    }

    private static void pass() {
        HotPanLocks x = after("a0p,b1s,c2h,d2p");
        due("no burns", x.pass(20), 0);
        due("peek", x.row(0, 0), 20);
        due("stir", x.row(1, 0), 40);
        due("hold", x.row(2, 0), 60);
        due("cold", x.row(3, 0), 0);
        due("above what is borne", x.pass(1), 1);
        due("c was burnt", x.hand(2, 5), 1);
        due("d has it", x.row(2, 2), 8);
        due("the heat stays", x.row(2, 0), 63);
        due("d in turn, alone", x.pass(1), 1);
        due("now it cools", x.pass(1), 0);
        due("by 2", x.row(2, 0), 62);
        due("ticks", x.count(2), 23);
        due("burnt in all", x.count(3), 2);
        due("saved as one call", x.undo(), 4);
        due("ticks again", x.count(2), 22);
        thrown(x, "0", ARGUMENT, () -> x.pass(0));
        thrown(x, "101", ARGUMENT, () -> x.pass(101));
        for (int wild : WILD) {
            thrown(x, "wild", ARGUMENT, () -> x.pass(wild));
        }
        due("100, b burns in the 9th more, a in the 39th", x.pass(100), 2);
    }

    private static void burntRequestsStay() {
        HotPanLocks x = after("a0p,b0p,c0p,a0h,d0p");
        x.set(0, 10);
        due("all three are burnt", x.pass(11), 3);
        due("a's request stayed and is granted", x.lock(0, 0), 3);
        dueQueue(x, 0, "d1");
        due("a again", x.pass(1), 1);
        due("a burnt twice", x.hand(0, 5), 2);
        due("d has it", x.row(0, 2), 8);
    }

    private static void heatBounds() {
        HotPanLocks x = new HotPanLocks();
        due("set", x.set(0, 900), 60);
        due("set", x.set(1, 20), 1);
        due("set", x.set(2, 50), 2);
        did(x, "a0h,b0h");
        due("60 a tick, not burnt at 900", x.pass(15), 0);
        due("at 900", x.row(0, 0), 900);
        due("burnt", x.pass(1), 1);
        due("960", x.row(0, 0), 960);
        due("b burnt", x.pass(1), 1);
        due("at most 1000", x.row(0, 0), 1000);
        x.pass(19);
        due("at 50", x.row(0, 0), 50);
        x.pass(1);
        due("at 0", x.row(0, 0), 0);
        x.pass(1);
        due("at least 0", x.row(0, 0), 0);
        HotPanLocks y = after("a0p");
        y.set(2, 7);
        y.pass(10);
        y.release(0, 0);
        y.pass(1);
        due("10 less 7", y.row(0, 0), 3);
        y.pass(1);
        due("3 less 7", y.row(0, 0), 0);
    }

    private static void cool() {
        HotPanLocks x = after("a3h");
        x.pass(5);
        thrown(x, "holders", STATE, () -> x.cool(3));
        x.release(0, 3);
        due("heat", x.cool(3), 15);
        due("cooled", x.row(3, 0), 0);
        due("again", x.cool(3), 0);
        due("undoable, each", x.count(9), 5);
        x.undo();
        due("undone", x.undo(), 3);
        due("warm again", x.row(3, 0), 15);
        for (int wild : WILD) {
            thrown(x, "no such row", INDEX, () -> x.cool(wild));
        }
        thrown(x, "row 12", INDEX, () -> x.cool(12));
    }

    private static void set() {
        HotPanLocks x = new HotPanLocks();
        int[][] bounds = {{10, 900, 60}, {0, 20, 1}, {0, 50, 2}};
        for (int setting = 0; setting < 3; setting++) {
            int which = setting;
            int least = bounds[setting][0];
            int greatest = bounds[setting][1];
            due("to the least", x.set(setting, least), bounds[setting][2]);
            due("to the greatest", x.set(setting, greatest), least);
            due("to the same", x.set(setting, greatest), greatest);
            due("setting", x.setting(setting), greatest);
            thrown(x, "too little", ARGUMENT, () -> x.set(which, least - 1));
            thrown(x, "too much", ARGUMENT, () -> x.set(which, greatest + 1));
            for (int wild : WILD) {
                thrown(x, "wild", ARGUMENT, () -> x.set(which, wild));
            }
        }
        due("undoable, also without a change", x.undo(), 5);
        for (int wild : WILD) {
            thrown(x, "no such setting", INDEX, () -> x.set(wild, -1));
        }
        thrown(x, "setting 3", INDEX, () -> x.set(3, 10));
    }

    // ---- texts

    private static void append() {
        HotPanLocks x = new HotPanLocks();
        due("least", x.append(33), 1);
        due("greatest", x.append(126), 2);
        thrown(x, "32", ARGUMENT, () -> x.append(32));
        thrown(x, "127", ARGUMENT, () -> x.append(127));
        for (int wild : WILD) {
            thrown(x, "wild", ARGUMENT, () -> x.append(wild));
        }
        for (int length = 3; length <= 60; length++) {
            due("length", x.append('a'), length);
        }
        thrown(x, "full", STATE, () -> x.append('a'));
        thrown(x, "full, and no such code", ARGUMENT, () -> x.append(0));
        due("not undoable", x.count(9), 0);
    }

    private static void clearBuffer() {
        HotPanLocks x = typed("a0p");
        due("length", x.clearBuffer(), 3);
        due("empty", x.clearBuffer(), 0);
        due("append", x.append('b'), 1);
        due("not undoable", x.count(9), 0);
    }

    private static void firstError() {
        String[] texts = {"", "i", "a", "h", "A", "`", "a0", "a9", "a1", "a10", "a11", "a12", "a01", "a00", "a20", "a19",
            "a110", "a1p", "a1s", "a1h", "a1-", "a10p", "a11-", "a1x", "a0x", "a10x", "a-", "ap", "a0pp", "a0p,", "a0p,,",
            ",", "a0p,b", "a0p,b11h,c10-", "a0p;b0p", "a0p,i0p", "a/p", "a:p", "a1,", "a0,", "a0p,b0p,x"};
        int[] want = {0, 0, 1, 1, 0, 0, 2, 2, 2, 3, 3, 2, 2, 2, 2, 2,
            3, 3, 3, 3, 3, 4, 4, 2, 2, 3, 1, 1, 3, 4, 4,
            0, 5, 13, 3, 4, 1, 1, 2, 2, 8};
        for (int i = 0; i < texts.length; i++) {
            due("firstError of " + texts[i], typed(texts[i]).firstError(), want[i]);
        }
        String full = "a0p,b1s,c2h,d3-,e4p,f5s,g6h,h7-,a8p,b9s,c0h,d1-,e2p,f3s,g4h,";
        due("a full buffer, cut within a row of any length", typed(full).firstError(), 60);
        due("nothing saved", typed("x").count(9), 0);
    }

    private static void run() {
        HotPanLocks x = typed("a0h,b11p,b11-,c10s,d0p");
        due("all", x.run(), 5);
        due("buffer is clear", x.clearBuffer(), 0);
        due("a has row 0", x.lock(0, 0), 3);
        due("b released row 11", x.lock(1, 11), 0);
        due("c has row 10", x.lock(2, 10), 2);
        due("d waits for row 0", x.hand(3, 2), 0);
        due("asked", x.count(7), 4);
        due("saved once", x.count(9), 1);
        due("up to d, which waits", type(x, "a1p,d1p,a2p").run(), 1);
        due("a2p not carried out", x.lock(0, 2), 0);
        due("up to a release without a lock", type(x, "e3p,e4-,e5p").run(), 1);
        due("up to a release of what it waits for", type(x, "f3p,d0-").run(), 1);
        due("none is carried out", type(x, "d1p,a5p").run(), 0);
        due("saved all the same", x.count(9), 5);
        due("cleared all the same", x.clearBuffer(), 0);
        due("undone as one call", x.undo(), 4);
        due("the buffer is not restored", x.clearBuffer(), 0);
        for (String bad : new String[] {"", "a", "a1", "a10", "a1p,", "a1p,b", "x", "a1pp", "a1p,b12p"}) {
            HotPanLocks y = after("h9p");
            type(y, bad);
            thrown(y, "run of " + bad, ARGUMENT, y::run);
            due("the buffer stays", y.clearBuffer(), bad.length());
        }
        due("a full buffer but for its comma",
                typed("a0p,b1s,c2h,d3p,e4p,f5s,g6h,h7p,a8p,b9s,c10h,d11h,e2-,f3s").run(), 12);
        due("a ring within", typed("a0h,b1h,a1h,b0h,b1p").run(), 5);
    }

    private static void undo() {
        HotPanLocks x = new HotPanLocks();
        thrown(x, "none", STATE, x::undo);
        List<Long> digests = new ArrayList<>();
        for (int row = 0; row < 9; row++) {
            digests.add(x.digest());
            x.ask(0, row, 3);
            due("saved", x.count(9), Math.min(6, row + 1));
        }
        for (int left = 5; left >= 0; left--) {
            due("left", x.undo(), left);
            due("locks", x.count(0), left + 3);
            due("asked", x.count(7), left + 3);
        }
        thrown(x, "no more", STATE, x::undo);
        HotPanLocks y = new HotPanLocks();
        for (int row = 0; row < 5; row++) {
            due("same as once before", y.digest(), digests.get(row));
            y.ask(0, row, 3);
        }
        for (int row = 4; row >= 0; row--) {
            y.undo();
            due("all is as before", y.digest(), digests.get(row));
        }
    }

    private static void undoRestoresAll() {
        HotPanLocks x = new HotPanLocks();
        x.set(0, 10);
        did(x, "a0h,b0h,c0p,d1h,d2h,e2p");
        x.pass(4);
        x.handOn(1, 0, 2);
        long before = x.digest();
        int saved = x.count(9);
        x.pass(100);
        x.undo();
        // the digest holds count(9), so the same number of states is saved again
        due("saved", x.count(9), saved);
        due("all", x.digest(), before);
        type(x, "a5p");
        x.set(2, 50);
        type(x, ",b");
        x.undo();
        due("but the buffer", x.clearBuffer(), 5);
        due("all but it", x.digest(), before);
    }

    // ---- what there is

    private static void lock() {
        HotPanLocks x = after("a0p,h11h,c5s");
        due("peek", x.lock(0, 0), 1);
        due("hold", x.lock(7, 11), 3);
        due("stir", x.lock(2, 5), 2);
        due("none", x.lock(0, 11), 0);
        for (int wild : WILD) {
            thrown(x, "no such hand", INDEX, () -> x.lock(wild, 0));
            thrown(x, "no such row", INDEX, () -> x.lock(0, wild));
        }
        thrown(x, "hand 8", INDEX, () -> x.lock(8, 0));
        thrown(x, "row 12", INDEX, () -> x.lock(0, 12));
    }

    private static void hand() {
        HotPanLocks x = after("a0p,a1h,a3s,b1s,c1p");
        due("locks", x.hand(0, 0), 3);
        due("work", x.hand(0, 1), 6);
        due("waits for row", x.hand(1, 2), 1);
        due("in mode", x.hand(1, 3), 2);
        due("for hands", x.hand(1, 4), 1);
        due("and those ahead", x.hand(2, 4), 3);
        due("granted", x.hand(0, 7), 3);
        due("asked", x.hand(1, 8), 1);
        for (int wild : WILD) {
            thrown(x, "no such hand", INDEX, () -> x.hand(wild, 9));
            thrown(x, "no such part", ARGUMENT, () -> x.hand(0, wild));
        }
        thrown(x, "hand 8", INDEX, () -> x.hand(8, 0));
        thrown(x, "what 9", ARGUMENT, () -> x.hand(0, 9));
    }

    private static void row() {
        HotPanLocks x = after("a4p,b4s,d4h,c4p");
        x.pass(3);
        due("heat", x.row(4, 0), 6);
        due("greatest mode", x.row(4, 1), 2);
        due("holders", x.row(4, 2), 3);
        due("requests", x.row(4, 3), 2);
        due("handed on", x.row(4, 4), 0);
        due("first", x.row(4, 5), 3);
        due("no first", x.row(5, 5), -1);
        for (int wild : WILD) {
            thrown(x, "no such row", INDEX, () -> x.row(wild, 6));
            thrown(x, "no such part", ARGUMENT, () -> x.row(0, wild));
        }
        thrown(x, "row 12", INDEX, () -> x.row(12, 0));
        thrown(x, "what 6", ARGUMENT, () -> x.row(0, 6));
    }

    private static void request() {
        HotPanLocks x = after("h6h,a6p,g6h,b6s,f6p,c6h,e6p,d6s");
        dueQueue(x, 6, "a1g3b2f1c3e1d2");
        due("place 6", x.request(6, 6, 1), 2);
        due("place 7", x.request(6, 7, 0), -1);
        due("place 7", x.request(6, 7, 1), -1);
        due("another row", x.request(5, 0, 1), -1);
        for (int wild : WILD) {
            thrown(x, "no such row", INDEX, () -> x.request(wild, 8, 0));
            thrown(x, "no such place", ARGUMENT, () -> x.request(6, wild, 0));
            thrown(x, "no such part", ARGUMENT, () -> x.request(6, 0, wild));
        }
        thrown(x, "row 12", INDEX, () -> x.request(12, 0, 0));
        thrown(x, "place 8", ARGUMENT, () -> x.request(6, 8, 0));
        thrown(x, "what 2", ARGUMENT, () -> x.request(6, 0, 2));
    }

    private static void count() {
        HotPanLocks x = after("a0p,b0p,c1h,d1p,e0h,c1s");
        x.pass(2);
        x.handOn(2, 1, 3);
        int[] want = {3, 1, 2, 0, 0, 1, 5, 6, 2, 3};
        for (int what = 0; what <= 9; what++) {
            due("count " + what, x.count(what), want[what]);
        }
        x.pass(100);
        due("burnt in all", x.count(3), x.hand(0, 5) + x.hand(1, 5) + x.hand(3, 5) + x.hand(4, 5));
        due("a, b, d, and e that came behind a and b", x.count(3), 4);
        due("no locks", x.count(0), 0);
        for (int wild : WILD) {
            thrown(x, "wild", ARGUMENT, () -> x.count(wild));
        }
        thrown(x, "what 10", ARGUMENT, () -> x.count(10));
    }

    private static void setting() {
        HotPanLocks x = new HotPanLocks();
        x.set(1, 5);
        due("0", x.setting(0), 60);
        due("1", x.setting(1), 5);
        due("2", x.setting(2), 2);
        x.undo();
        due("1 again", x.setting(1), 1);
        for (int wild : WILD) {
            thrown(x, "wild", INDEX, () -> x.setting(wild));
        }
        thrown(x, "setting 3", INDEX, () -> x.setting(3));
    }

    // ---- what would be

    private static void ifAsked() {
        HotPanLocks x = after("a0h,b1h,c1p,b0p,e3p");
        long before = x.digest();
        due("it would have it", x.ifAsked(0, 1, 3, 0), 0);
        due("two would lose", x.ifAsked(0, 1, 3, 1), 2);
        due("locks", x.ifAsked(0, 1, 3, 2), 3);
        due("it would wait", x.ifAsked(3, 0, 1, 0), 1);
        due("nobody would lose", x.ifAsked(3, 0, 1, 1), 0);
        due("locks as before", x.ifAsked(3, 0, 1, 2), 3);
        due("it has it", x.ifAsked(0, 0, 2, 0), 0);
        due("one more lock", x.ifAsked(3, 3, 2, 2), 4);
        due("waits", x.ifAsked(1, 1, 3, 0), -1);
        due("waits", x.ifAsked(1, 5, 3, 1), -1);
        due("waits", x.ifAsked(2, 5, 1, 2), -1);
        HotPanLocks y = after("a0h,b1h,a1p");
        due("it would lose", y.ifAsked(1, 0, 1, 0), 2);
        due("itself", y.ifAsked(1, 0, 1, 1), 1);
        due("a's row 0, and row 1 for a", y.ifAsked(1, 0, 1, 2), 2);
        due("nothing is changed", x.digest(), before);
        for (int wild : WILD) {
            thrown(x, "no such hand", INDEX, () -> x.ifAsked(wild, 0, 4, 0));
            thrown(x, "no such row", INDEX, () -> x.ifAsked(0, wild, 1, 3));
            thrown(x, "no such mode", ARGUMENT, () -> x.ifAsked(1, 0, wild, 0));
            thrown(x, "no such what", ARGUMENT, () -> x.ifAsked(1, 0, 1, wild));
        }
        thrown(x, "hand 8", INDEX, () -> x.ifAsked(8, 0, 1, 0));
        thrown(x, "row 12", INDEX, () -> x.ifAsked(0, 12, 1, 0));
        thrown(x, "mode 0", ARGUMENT, () -> x.ifAsked(0, 0, 0, 0));
        thrown(x, "mode 4", ARGUMENT, () -> x.ifAsked(0, 0, 4, 0));
        thrown(x, "what 3", ARGUMENT, () -> x.ifAsked(0, 0, 1, 3));
    }

    private static void takers() {
        HotPanLocks x = after("a0h,b0h,c0p,d0s,e1h");
        due("to all that wait", x.takers(0, 0), 14);
        due("without a lock", x.takers(4, 0), 0);
        due("that waits", x.takers(1, 0), 0);
        due("another row", x.takers(4, 1), 0);
        HotPanLocks y = after("a0p,b0s,c0h,d0s,e0p,b5p");
        due("a's: hold and stir clash with b", y.takers(0, 0), 16);
        due("b's: a is in the way of hold", y.takers(1, 0), 24);
        HotPanLocks z = after("a0p,b0p,b0h,c0p");
        due("waits for it", z.takers(1, 0), 0);
        due("to b, and to c beside b", z.takers(0, 0), 6);
        for (int wild : WILD) {
            thrown(x, "no such hand", INDEX, () -> x.takers(wild, 0));
            thrown(x, "no such row", INDEX, () -> x.takers(0, wild));
        }
        thrown(x, "hand 8", INDEX, () -> x.takers(8, 0));
        thrown(x, "row 12", INDEX, () -> x.takers(0, 12));
    }

    private static void burnsIn() {
        HotPanLocks x = after("a0p,b1s,c2h");
        due("peek", x.burnsIn(0), 61);
        due("stir", x.burnsIn(1), 31);
        due("hold", x.burnsIn(2), 21);
        due("no holders", x.burnsIn(3), -1);
        x.set(0, 300);
        due("301 is too far", x.burnsIn(0), -1);
        x.set(0, 299);
        due("300", x.burnsIn(0), 300);
        x.set(0, 10);
        due("stir, above 10", x.burnsIn(1), 6);
        due("c burns on the way", x.pass(5), 1);
        due("next", x.burnsIn(1), 1);
        x.set(1, 0);
        due("never", x.burnsIn(1), -1);
        HotPanLocks y = after("a0h");
        y.pass(10);
        y.set(0, 10);
        y.set(1, 0);
        due("it is above already", y.burnsIn(0), 1);
        due("burnt", y.pass(1), 1);
        due("hot, but no holders", y.burnsIn(0), -1);
        for (int wild : WILD) {
            thrown(x, "no such row", INDEX, () -> x.burnsIn(wild));
        }
        thrown(x, "row 12", INDEX, () -> x.burnsIn(12));
    }

    private static void waitsFor() {
        HotPanLocks x = after("a0h,b1h,c2h,b0p,c1p,d2p,e2p");
        due("a", x.waitsFor(0), 0);
        due("b", x.waitsFor(1), 1);
        due("c", x.waitsFor(2), 3);
        due("d", x.waitsFor(3), 7);
        due("e", x.waitsFor(4), 15);
        due("e, not over others", x.hand(4, 4), 12);
        for (int wild : WILD) {
            thrown(x, "no such hand", INDEX, () -> x.waitsFor(wild));
        }
        thrown(x, "hand 8", INDEX, () -> x.waitsFor(8));
    }

    private static void busiest() {
        HotPanLocks x = new HotPanLocks();
        due("nobody waits", x.busiest(), -1);
        did(x, "a0p,b1h,c2h");
        due("still nobody", x.busiest(), -1);
        did(x, "d2p");
        due("c", x.busiest(), 2);
        did(x, "e1p");
        due("the lowest number of two", x.busiest(), 1);
        did(x, "f2p");
        due("c, for two", x.busiest(), 2);
        did(x, "b0h");
        due("a, over b, for two as c", x.busiest(), 0);
        did(x, "g1p");
        due("a, for b, e and g", x.busiest(), 0);
    }

    private static void grantedShare() {
        HotPanLocks x = new HotPanLocks();
        dueExactly("nobody asked", x.grantedShare(), 1.0);
        did(x, "a0h,b0p");
        dueExactly("a half", x.grantedShare(), 0.5);
        did(x, "c0p");
        dueExactly("a third", x.grantedShare(), 1.0 / 3.0);
        x.release(0, 0);
        dueExactly("all", x.grantedShare(), 1.0);
    }

    private static long digestByWords(HotPanLocks x, String buffer) {
        List<Long> v = new ArrayList<>();
        for (int what = 0; what <= 9; what++) {
            v.add((long) x.count(what));
        }
        for (int setting = 0; setting <= 2; setting++) {
            v.add((long) x.setting(setting));
        }
        for (int hand = 0; hand < 8; hand++) {
            for (int what = 0; what <= 8; what++) {
                v.add((long) x.hand(hand, what));
            }
            for (int row = 0; row < 12; row++) {
                v.add((long) x.lock(hand, row));
            }
            v.add((long) x.waitsFor(hand));
        }
        for (int row = 0; row < 12; row++) {
            for (int what = 0; what <= 5; what++) {
                v.add((long) x.row(row, what));
            }
            for (int place = 0; place < x.row(row, 3); place++) {
                v.add((long) x.request(row, place, 0));
                v.add((long) x.request(row, place, 1));
            }
            v.add((long) x.burnsIn(row));
            for (int what = 0; what <= 2; what++) {
                v.add((long) x.ifAsked(0, row, 3, what));
            }
            v.add((long) x.takers(0, row));
        }
        v.add((long) x.busiest());
        v.add(Double.doubleToLongBits(x.grantedShare()));
        v.add((long) buffer.length());
        for (char c : buffer.toCharArray()) {
            v.add((long) c);
        }
        long hash = 2447;
        for (long value : v) {
            hash = 31 * hash + value;
        }
        return hash;
    }

    private static void dueDigest(String what, HotPanLocks x, HotPanLocks same, String buffer) {
        due(what, x.digest(), digestByWords(same, buffer));
    }

    private static void digest() {
        String text = "b0h,a1h,a0p,c1p";
        dueDigest("a new object", new HotPanLocks(), new HotPanLocks(), "");
        dueDigest("with requests", after(text), after(text), "");
        dueDigest("with a buffer", type(after(text), "a0p,~!"), type(after(text), "a0p,~!"), "a0p,~!");
        HotPanLocks x = after(text);
        due("twice the same", x.digest(), x.digest());
        HotPanLocks y = new HotPanLocks();
        HotPanLocks z = new HotPanLocks();
        z.ask(0, 0, 3);
        z.undo();
        dueDigest("nothing asked, after undo", z, y, "");
    }

    private static void test(String name, Runnable test) {
        promise = name;
        int before = wrong;
        try {
            test.run();
        } catch (RuntimeException e) {
            wrong++;
            System.out.println(name + ": " + e);
            e.printStackTrace(System.out);
        }
        if (wrong != before) {
            System.out.println(name + " is broken");
        }
    }

    private static void testLocks() {
        test("1 a new object", HotPanLocksPromisesTest::aNewObject);
        test("2 ask", HotPanLocksPromisesTest::ask);
        test("2 ask, stronger locks", HotPanLocksPromisesTest::askForMore);
        test("2 ask, stronger locks in the queue", HotPanLocksPromisesTest::askForMoreBehindHolders);
        test("2 ask, rings", HotPanLocksPromisesTest::rings);
        test("2 ask, long rings", HotPanLocksPromisesTest::longRings);
        test("2 ask, what a loser frees", HotPanLocksPromisesTest::loserFreesRows);
        test("3 release", HotPanLocksPromisesTest::release);
        test("4 giveUp", HotPanLocksPromisesTest::giveUp);
        test("5 handOn", HotPanLocksPromisesTest::handOn);
        test("5 handOn, exceptions", HotPanLocksPromisesTest::handOnThrows);
        test("6 pass", HotPanLocksPromisesTest::pass);
        test("6 pass, requests stay", HotPanLocksPromisesTest::burntRequestsStay);
        test("6 pass, bounds of the heat", HotPanLocksPromisesTest::heatBounds);
        test("7 cool", HotPanLocksPromisesTest::cool);
        test("8 set", HotPanLocksPromisesTest::set);
    }

    private static void testTextsAndAnswers() {
        test("9 append", HotPanLocksPromisesTest::append);
        test("10 clearBuffer", HotPanLocksPromisesTest::clearBuffer);
        test("11 firstError", HotPanLocksPromisesTest::firstError);
        test("12 run", HotPanLocksPromisesTest::run);
        test("13 undo", HotPanLocksPromisesTest::undo);
        test("13 undo, all is restored", HotPanLocksPromisesTest::undoRestoresAll);
        test("14 lock", HotPanLocksPromisesTest::lock);
        test("15 hand", HotPanLocksPromisesTest::hand);
        test("16 row", HotPanLocksPromisesTest::row);
        test("17 request", HotPanLocksPromisesTest::request);
        test("18 count", HotPanLocksPromisesTest::count);
        test("19 setting", HotPanLocksPromisesTest::setting);
        test("20 ifAsked", HotPanLocksPromisesTest::ifAsked);
        test("21 takers", HotPanLocksPromisesTest::takers);
        test("22 burnsIn", HotPanLocksPromisesTest::burnsIn);
        test("23 waitsFor", HotPanLocksPromisesTest::waitsFor);
        test("24 busiest", HotPanLocksPromisesTest::busiest);
        test("25 grantedShare", HotPanLocksPromisesTest::grantedShare);
        test("26 digest", HotPanLocksPromisesTest::digest);
    }

    public static void main(String[] args) {
        testLocks();
        testTextsAndAnswers();
        System.out.println(wrong == 0 ? "all promises are kept" : wrong + " answers are not as due");
        if (wrong != 0) {
            System.exit(1);
        }
    }
}
