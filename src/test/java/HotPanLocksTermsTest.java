import java.lang.reflect.Method;
import java.lang.reflect.Modifier;
import java.util.Set;
import java.util.TreeSet;

/** Each sentence of the document ahead of its promises that names an edge, and a test that holds it. */
public final class HotPanLocksTermsTest extends Sentences {

    // ---- what it is

    private static void callsUpToThe512th() {
        HotPanLocks x = new HotPanLocks();
        for (int call = 1; call <= 511; call++) {
            due("ask, call " + call, x.ask(call % 8, call % 12, 1), 0);
        }
        due("times asked, call 512", x.count(7), 511);
        HotPanLocks y = new HotPanLocks();
        for (int call = 1; call <= 511; call++) {
            y.pass(100);
        }
        due("ticks, call 512", y.count(2), 51100);
        HotPanLocks z = new HotPanLocks();
        for (int call = 1; call <= 511; call++) {
            due("set, call " + call, z.set(1, call % 21), (call - 1) % 21 + (call == 1 ? 1 : 0));
        }
        due("undo, call 512", z.undo(), 5);
        Start worn = () -> {
            HotPanLocks w = new HotPanLocks();
            for (int call = 1; call <= 508; call += 2) {
                due("append, call " + call, w.append('a'), 1);
                due("clearBuffer", w.clearBuffer(), 1);
            }
            return w;
        };
        refused("undo, call 509", worn, STATE, HotPanLocks::undo);
        refused("ask, call 509", worn, ARGUMENT, w -> w.ask(0, 0, 4));
    }

    // ---- the face

    private static final String[] METHODS = {
        "public int ask(int hand, int row, int mode) throws IndexOutOfBoundsException, IllegalArgumentException, IllegalStateException;",
        "public int release(int hand, int row) throws IndexOutOfBoundsException, IllegalStateException;",
        "public int giveUp(int hand) throws IndexOutOfBoundsException, IllegalStateException;",
        "public int handOn(int hand, int row, int other) throws IndexOutOfBoundsException, IllegalStateException;",
        "public int pass(int ticks) throws IllegalArgumentException;",
        "public int cool(int row) throws IndexOutOfBoundsException, IllegalStateException;",
        "public int set(int setting, int value) throws IndexOutOfBoundsException, IllegalArgumentException;",
        "public int append(int code) throws IllegalArgumentException, IllegalStateException;",
        "public int clearBuffer();",
        "public int firstError();",
        "public int run() throws IllegalArgumentException;",
        "public int undo() throws IllegalStateException;",
        "public int lock(int hand, int row) throws IndexOutOfBoundsException;",
        "public int hand(int hand, int what) throws IndexOutOfBoundsException, IllegalArgumentException;",
        "public int row(int row, int what) throws IndexOutOfBoundsException, IllegalArgumentException;",
        "public int request(int row, int place, int what) throws IndexOutOfBoundsException, IllegalArgumentException;",
        "public int count(int what) throws IllegalArgumentException;",
        "public int setting(int setting) throws IndexOutOfBoundsException;",
        "public int ifAsked(int hand, int row, int mode, int what) throws IndexOutOfBoundsException, IllegalArgumentException;",
        "public int takers(int hand, int row) throws IndexOutOfBoundsException;",
        "public int burnsIn(int row) throws IndexOutOfBoundsException;",
        "public int waitsFor(int hand) throws IndexOutOfBoundsException;",
        "public int busiest();",
        "public double grantedShare();",
        "public long digest();"};

    private static Set<String> publicMethods() {
        Set<String> found = new TreeSet<>();
        for (Method m : HotPanLocks.class.getDeclaredMethods()) {
            if (Modifier.isPublic(m.getModifiers())) {
                String plain = m.toString().replace("HotPanLocks.", "").replace("java.lang.", "");
                found.add(plain.replace(",", ", ") + ";");
            }
        }
        return found;
    }

    private static void declared(String line) {
        String bare = line.replaceAll("int [a-z]+(?=[,)])", "int");
        due("methods declared as " + bare, publicMethods().contains(bare) ? 1 : 0, 1);
    }

    private static void theFace() {
        section("The public face");
        namesNoEdge("public final class HotPanLocks {", "}");
        holds("public static final int NONE = -1;", () -> due("NONE", HotPanLocks.NONE, -1));
        holds("public HotPanLocks();", () -> dueText("the constructors",
                java.util.Arrays.toString(HotPanLocks.class.getDeclaredConstructors()), "[public HotPanLocks()]"));
        for (String method : METHODS) {
            holds(method, () -> declared(method));
        }
        due("public methods", publicMethods().size(), METHODS.length);
    }

    // ---- hands, rows, modes

    private static void numbersOfHandsAndRows() {
        HotPanLocks x = new HotPanLocks();
        for (int hand = 0; hand < 8; hand++) {
            for (int row = 0; row < 12; row++) {
                due("hand " + hand + " peeks at row " + row, x.ask(hand, row, 1), 0);
            }
        }
        due("8 times 12 locks", x.count(0), 96);
        for (int row = 0; row < 12; row++) {
            due("holders of row " + row, x.row(row, 2), 255);
        }
        for (int hand : new int[] {0, 7}) {
            for (int row : new int[] {0, 11}) {
                HotPanLocks y = new HotPanLocks();
                due("hand " + hand + " holds row " + row, y.ask(hand, row, 3), 0);
                for (int other = 0; other < 96; other++) {
                    int want = other == hand * 12 + row ? 3 : 0;
                    due("lock of hand " + other / 12 + " on row " + other % 12, y.lock(other / 12, other % 12), want);
                }
            }
        }
        refusedEach("no hand", Sentences::rich, INDEX, NO_HANDS, (z, hand) -> z.lock(hand, 0));
        refusedEach("no row", Sentences::rich, INDEX, NO_ROWS, (z, row) -> z.lock(0, row));
    }

    private static void modes() {
        for (int mode = 1; mode <= 3; mode++) {
            HotPanLocks x = new HotPanLocks();
            due("ask in mode " + mode, x.ask(2, 3, mode), 0);
            due("mode of the lock", x.lock(2, 3), mode);
        }
        refusedEach("no mode", HotPanLocks::new, ARGUMENT, new int[] {0, 4}, (x, mode) -> x.ask(2, 3, mode));
    }

    private static void holders() {
        HotPanLocks x = after("a1p,b1p,c1p,d1p", "e1p,f1p,g1p,h1p", "a2h,b2p");
        due("nobody", x.row(0, 2), 0);
        due("all hands", x.row(1, 2), 255);
        due("one that waits is none", x.row(2, 2), 1);
        x.release(7, 1);
        due("all but the last hand", x.row(1, 2), 127);
    }

    private static void clashes() {
        int[][] waits = {{0, 0, 1}, {0, 1, 1}, {1, 1, 1}};
        for (int mode = 1; mode <= 3; mode++) {
            for (int second = 1; second <= 3; second++) {
                HotPanLocks x = new HotPanLocks();
                x.ask(0, 4, mode);
                int want = waits[mode - 1][second - 1];
                due(second + " beside " + mode + ", what it would be", x.ifAsked(1, 4, second, 0), want);
                due(second + " beside " + mode, x.ask(1, 4, second), want);
                due(second + " beside " + mode + ", for whom it waits", x.hand(1, 4), want);
            }
        }
    }

    private static void work() {
        HotPanLocks x = new HotPanLocks();
        for (int row = 0; row < 12; row++) {
            x.ask(7, row, 3);
        }
        due("all rows held", x.hand(7, 1), 36);
        due("nothing", x.hand(6, 1), 0);
        HotPanLocks y = after("a0p,a1s,a2h,b3h,b2h,c4p,d4p,c4h");
        due("one in each mode", y.hand(0, 1), 6);
        due("a request is no work", y.hand(1, 1), 3);
        due("a lock to be made stronger is still the lesser one", y.hand(2, 1), 1);
        y.release(3, 4);
        due("a stronger lock stands in place of the lesser one", y.hand(2, 1), 3);
    }

    private static void workOfEachHandAlone() {
        for (int hand = 0; hand < 8; hand++) {
            for (int row = 0; row < 12; row++) {
                HotPanLocks x = new HotPanLocks();
                x.ask(hand, row, 3);
                for (int other = 0; other < 8; other++) {
                    due("work of hand " + other, x.hand(other, 1), other == hand ? 3 : 0);
                    due("locks of hand " + other, x.hand(other, 0), other == hand ? 1 : 0);
                }
            }
        }
        due("a's lock on the last row does not save b", after("a11h,b0p,c1s,b1s").ask(2, 0, 3), 0);
    }

    private static void handsRowsModes() {
        section("Terms");
        namesNoEdge("All numbers are integers.", "Hands, rows, modes");
        holds("There are 8 hands and 12 rows, both numbered from 0.", HotPanLocksTermsTest::numbersOfHandsAndRows);
        holds("A hand can have a lock on a row, in one of the modes 1 (peek), 2 (stir) and 3 (hold)",
                HotPanLocksTermsTest::modes);
        holds("the hands that have a lock on a row are its holders", HotPanLocksTermsTest::holders);
        holds("Two modes clash if their sum is above 3 (so peek goes together with peek and stir, stir with peek alone,"
                + " hold with nothing).", HotPanLocksTermsTest::clashes);
        holds("The work of a hand is the sum of the modes of its locks.", HotPanLocksTermsTest::work);
        holds("The work of a hand is the sum of the modes of its locks.", HotPanLocksTermsTest::workOfEachHandAlone);
    }

    // ---- queues

    private static void emptyAndFullQueue() {
        HotPanLocks x = new HotPanLocks();
        dueQueue(x, 6, "");
        due("requests of an empty queue", x.row(6, 3), 0);
        x.ask(7, 6, 3);
        dueQueue(x, 6, "");
        for (int hand = 6; hand >= 0; hand--) {
            due("it waits", x.ask(hand, 6, hand % 3 + 1), 1);
        }
        dueQueue(x, 6, "g1f3e2d1c3b2a1");
        due("requests of a full queue", x.row(6, 3), 7);
        for (int row = 0; row < 12; row++) {
            due("requests of row " + row, x.row(row, 3), row == 6 ? 7 : 0);
        }
        due("the hand is not granted out of turn when all let go", x.release(7, 6), 1);
        dueQueue(x, 6, "f3e2d1c3b2a1");
    }

    private static void oneRequestAtMost() {
        Start waiting = () -> after("a0h,b1p,b0p");
        due("it waits", waiting.made().hand(1, 2), 0);
        refused("the same request once more", waiting, STATE, x -> x.ask(1, 0, 1));
        refused("a greater one for the same row", waiting, STATE, x -> x.ask(1, 0, 3));
        refused("one for a free row", waiting, STATE, x -> x.ask(1, 5, 1));
        refused("one for a lock that it has", waiting, STATE, x -> x.ask(1, 1, 1));
        HotPanLocks x = waiting.made();
        x.giveUp(1);
        due("waits no more", x.hand(1, 2), NONE);
        due("now it can ask again", x.ask(1, 0, 2), 1);
        dueQueue(x, 0, "b2");
        x.release(0, 0);
        due("granted, it waits no more", x.hand(1, 2), NONE);
        due("and can ask again", x.ask(1, 5, 1), 0);
    }

    private static void sameOrLesserMode() {
        for (int had = 1; had <= 3; had++) {
            for (int asked = 1; asked <= had; asked++) {
                HotPanLocks x = new HotPanLocks();
                x.ask(0, 7, had);
                x.ask(1, 7, 3);
                due("has " + had + ", asks for " + asked, x.ask(0, 7, asked), 0);
                due("the lock stays as it is", x.lock(0, 7), had);
                due("it counts as asked", x.hand(0, 8), 2);
                due("it counts as granted", x.hand(0, 7), 2);
                due("it counts so in all", x.count(6), 2);
                due("it does not wait", x.hand(0, 2), NONE);
                dueQueue(x, 7, "b3");
                due("one lock", x.count(0), 1);
            }
        }
        HotPanLocks x = after("a7p,b7p,c7s,b7s,d7p");
        due("not behind one that waits for more", x.ask(0, 7, 1), 0);
        due("nor does the stir wait, asking for less", x.ask(2, 7, 1), 0);
        dueQueue(x, 7, "b2d1");
        HotPanLocks y = after("a7p,b7p");
        due("one mode more is something to be done", y.ask(0, 7, 3), 1);
        due("not granted for that", y.hand(0, 7), 1);
    }

    private static void behindAllOthers() {
        HotPanLocks x = after("a0p,b0h");
        due("a peek that clashes with nothing waits behind", x.ask(2, 0, 1), 1);
        dueQueue(x, 0, "b3c1");
        due("the seventh too", did(x, "d5p,e5p,d0s,e0p,f0h,g0p").ask(7, 0, 1), 1);
        dueQueue(x, 0, "b3c1d2e1f3g1h1");
        HotPanLocks y = after("a0p,b0p,c0h,d3p,b0s");
        due("b could be made stronger at once", y.lock(1, 0), 2);
        due("a lock on another row is no lock on this one", y.ask(3, 0, 1), 1);
        dueQueue(y, 0, "c3d1");
        due("into an empty queue", after("a0p").ask(1, 0, 3), 1);
    }

    private static void aheadOfOthersBehindHolders() {
        HotPanLocks x = after("a0p,b0p,c0s,d0p,e0h,f0p");
        dueQueue(x, 0, "e3f1");
        due("the first of those with a lock", x.ask(3, 0, 2), 1);
        dueQueue(x, 0, "d2e3f1");
        due("behind the first, ahead of all others", x.ask(0, 0, 2), 1);
        dueQueue(x, 0, "d2a2e3f1");
        due("behind both, in whatever mode", x.ask(1, 0, 3), 1);
        dueQueue(x, 0, "d2a2b3e3f1");
        due("behind all, without a lock", x.ask(6, 0, 1), 1);
        dueQueue(x, 0, "d2a2b3e3f1g1");
        HotPanLocks y = after("a0p,b0p,c0s,a0s");
        dueQueue(y, 0, "a2");
        due("none but those with a lock", y.ask(1, 0, 2), 1);
        dueQueue(y, 0, "a2b2");
        HotPanLocks z = after("a0p,b0p");
        due("no others at all", z.ask(0, 0, 3), 1);
        dueQueue(z, 0, "a3");
        HotPanLocks w = after("b0p,c0s,h0p,a0h,g0p");
        due("ahead of hand 0", w.ask(1, 0, 2), 1);
        dueQueue(w, 0, "b2a3g1");
        due("behind b alone", w.ask(7, 0, 2), 1);
        dueQueue(w, 0, "b2h2a3g1");
    }

    private static void lesserLockIsKept() {
        HotPanLocks x = after("a0p,b0s,a0s,b1h,b2p");
        due("the lock while it waits", x.lock(0, 0), 1);
        due("it is still a holder", x.row(0, 2), 3);
        due("locks", x.count(0), 4);
        x.giveUp(0);
        due("the lock when it gave up", x.lock(0, 0), 1);
        HotPanLocks y = after("a0p,b0s,a0s,c0h,d0p");
        due("the kept lock is in the way of c", y.takers(1, 0), 1 | 8);
        y.release(1, 0);
        due("until it is granted", y.lock(0, 0), 2);
    }

    private static void placeIsKept() {
        HotPanLocks x = after("a0p,b0p,c0s,a0s,b0s,d0p");
        dueQueue(x, 0, "a2b2d1");
        x.set(0, 10);
        due("all three locks are burnt", x.pass(6), 3);
        due("a was first, and is granted", x.row(0, 2), 1);
        due("b has no lock any more", x.lock(1, 0), 0);
        dueQueue(x, 0, "b2d1");
        due("e comes behind both", x.ask(4, 0, 1), 1);
        dueQueue(x, 0, "b2d1e1");
        HotPanLocks y = after("a0p,b0p,c0s,a0s,b0s,d0p");
        y.handOn(2, 0, 3);
        due("d got its lock out of turn, then a is granted", y.row(0, 2), 1 | 2 | 8);
        dueQueue(y, 0, "b2");
        due("d asks for more: behind b, which has a lock", y.ask(3, 0, 2), 1);
        dueQueue(y, 0, "b2d2");
    }

    private static void burntPlaceAndNewHolder() {
        HotPanLocks x = after("a0p,b0p,c0s,a0p,b0s,a0s");
        dueQueue(x, 0, "b2a2");
        x.set(0, 10);
        due("burnt", x.pass(6), 3);
        due("b stirs", x.lock(1, 0), 2);
        dueQueue(x, 0, "a2");
        did(x, "c0p,d0p");
        x.handOn(1, 0, 2);
        due("c peeks out of turn, then a stirs, then d peeks", x.row(0, 2), 1 | 4 | 8);
        did(x, "e0s,f0p");
        dueQueue(x, 0, "e2f1");
        due("burnt again", x.pass(1), 3);
        dueQueue(x, 0, "");
        due("both granted", x.row(0, 2), 16 | 32);
    }

    private static void noFirstRequest() {
        HotPanLocks x = after("a0h,b0h");
        due("one is granted, then there is none", x.release(0, 0), 1);
        due("there was none", x.release(1, 0), 0);
        due("nobody", x.row(0, 2), 0);
        HotPanLocks y = after("a0h", "b0p,c0p,d0p,e0p,f0p,g0p,h0p");
        due("the whole queue is granted", y.release(0, 0), 7);
        due("holders", y.row(0, 2), 254);
        due("no requests", y.row(0, 3), 0);
    }

    private static void clashWithOthersAlone() {
        due("its own lock does not clash", after("a0p").ask(0, 0, 3), 0);
        due("peek to stir beside peek", after("a0p,b0p").ask(0, 0, 2), 0);
        due("peek to stir beside stir", after("a0p,b0s").ask(0, 0, 2), 1);
        due("stir to hold beside peek", after("a0p,b0s").ask(1, 0, 3), 1);
        HotPanLocks x = after("a0s,b0p,c0p,d0h,e0p");
        due("one of two in the way is gone", x.release(1, 0), 0);
        due("a's is still there", x.release(2, 0), 0);
        dueQueue(x, 0, "d3e1");
        due("the first is granted, and is in the way of the next", x.release(0, 0), 1);
        dueQueue(x, 0, "e1");
        HotPanLocks y = after("a0p,b0h,c0p");
        due("the first holds up all behind it", y.row(0, 2), 1);
        due("a stir, then a peek, but no second stir", after("a0h,b0s,c0p,d0s,e0p").release(0, 0), 2);
    }

    private static void grantedLock() {
        HotPanLocks x = after("a0p,b0p,a0h");
        due("granted", x.release(1, 0), 1);
        due("the greater mode", x.lock(0, 0), 3);
        due("in place of the lesser one", x.hand(0, 0), 1);
        due("locks", x.count(0), 1);
        due("the row of the request", x.hand(0, 2), NONE);
        due("the mode of the request", x.hand(0, 3), 0);
        dueQueue(x, 0, "");
        due("asked twice, granted twice", x.hand(0, 7), 2);
    }

    private static void queues() {
        section("Queues");
        holds("Each row has a queue of requests, each with a hand and a mode.", HotPanLocksTermsTest::emptyAndFullQueue);
        holds("A hand has at most one request, in all queues together; then it waits.",
                HotPanLocksTermsTest::oneRequestAtMost);
        holds("If a hand asks for a row, in a mode, and has a lock on it in this mode or a greater one, nothing is to be"
                + " done, and this counts as granted.", HotPanLocksTermsTest::sameOrLesserMode);
        holds("Otherwise its request comes into the queue of the row: behind all others, if it has no lock on this row",
                HotPanLocksTermsTest::behindAllOthers);
        holds("if it has one (in a lesser mode, which it keeps while it waits)", HotPanLocksTermsTest::lesserLockIsKept);
        holds("behind the requests of hands with a lock on this row, and ahead of all others",
                HotPanLocksTermsTest::aheadOfOthersBehindHolders);
        holds("(it keeps its place, whatever becomes of locks later)", HotPanLocksTermsTest::placeIsKept);
        holds("(it keeps its place, whatever becomes of locks later)", HotPanLocksTermsTest::burntPlaceAndNewHolder);
        holds("as long as there is a first request in its queue", HotPanLocksTermsTest::noFirstRequest);
        holds("and its mode clashes with no lock of another hand on this row", HotPanLocksTermsTest::clashWithOthersAlone);
        holds("it is granted: the hand has a lock in this mode (in place of a lesser one), and the request is gone",
                HotPanLocksTermsTest::grantedLock);
    }

    // ---- rings

    private static void forWhomItWaits() {
        HotPanLocks x = after("a0p,b0s,c0p,d0s,e0p,f0h", "b1h,a1p,g5h,h5p");
        due("stir: the stir clashes, the peeks do not", x.hand(3, 4), 2);
        due("peek: none clashes, but one is ahead", x.hand(4, 4), 8);
        due("hold: all that have a lock, and all ahead", x.hand(5, 4), 1 | 2 | 4 | 8 | 16);
        due("the other row alone", x.hand(0, 4), 2);
        due("one that does not wait", x.hand(2, 4), 0);
        due("the greatest number waits for the one before it", x.hand(7, 4), 64);
        HotPanLocks y = after("a0p,b0p,a0h");
        due("not for its own lock", y.hand(0, 4), 2);
        HotPanLocks z = after("a0p,b0p,c0s,a0s,d0p,b0s");
        due("a, first: for the stir alone", z.hand(0, 4), 4);
        due("b: ahead of d, behind a; a's lock does not clash", z.hand(1, 4), 1 | 4);
        due("d: behind both; c's lock does not clash", z.hand(3, 4), 1 | 2);
    }

    private static void ringOfTwo() {
        HotPanLocks x = after("a0h,b1h,a1p");
        due("no ring yet", x.waitsFor(0), 2);
        due("both rows, equal work", x.ask(1, 0, 1), 2);
        due("over one row", after("a0p,b0p,a0h").ask(1, 0, 3), 2);
        HotPanLocks y = after("a0p,b0p,c0s,a0s");
        due("a request ahead closes a ring as well as a lock", y.ask(1, 0, 2), 1);
        due("b waits for a, a not for b: no ring", y.count(4), 0);
        due("a hold waits for b's peek: a ring", after("a0p,b0p,c0p,a0h").ask(1, 0, 3), 2);
    }

    private static void ringOfEight() {
        String[] own = {"a0h,b1h,c2h,d3h,e4h,f5h,g6h,h7h", "a1p,b2p,c3p,d4p,e5p,f6p,g7p"};
        HotPanLocks x = after(own);
        due("a chain of all is no ring", x.count(4), 0);
        due("a waits for all others", x.waitsFor(0), 254);
        due("h closes the ring, and is the greatest of equals", x.ask(7, 0, 1), 2);
        due("one hand lost", x.count(4), 1);
        due("it was h", x.hand(7, 6), 1);
        due("g got row 7", x.lock(6, 7), 1);
        due("six wait", x.count(1), 6);
        due("a waits for all between", x.waitsFor(0), 126);
        HotPanLocks y = after("a0h,b1h,c2h,d3p,e4h,f5h,g6h,h7h", "a1p,b2p,c3h,d4p,e5p,f6p,g7p");
        due("the one in the middle has the least work", y.ask(7, 0, 1), 1);
        due("it was d", y.hand(3, 6), 1);
        due("c got row 3", y.lock(2, 3), 3);
        due("h waits over a and b for c", y.waitsFor(7), 7);
    }

    private static void notInTheRing() {
        HotPanLocks x = after("a0h,b1h,a1p,c1p");
        due("c waits for the ring, but nobody for c", x.ask(1, 0, 1), 2);
        due("c has the least work, but did not lose", x.hand(2, 6), 0);
        due("c was granted with a", x.row(1, 2), 5);
        HotPanLocks y = after("a0h,b1p,b5h,d1p,a1h");
        due("the ring waits for d, but d for nobody", y.ask(1, 0, 1), 0);
        due("d keeps its lock", y.lock(3, 1), 1);
        due("a lost", y.hand(0, 6), 1);
        HotPanLocks z = after("a0h,b1p,b5h,d1p,a1h,e6h,d6p");
        due("the ring waits for d, and d for another one", z.ask(1, 0, 1), 0);
        due("d keeps its lock", z.lock(3, 1), 1);
        due("d keeps its request", z.hand(3, 2), 6);
        due("a lost", z.hand(0, 6), 1);
    }

    private static void settledWhenAsked() {
        due("granted at once", new HotPanLocks().ask(0, 0, 3), 0);
        HotPanLocks x = after("a0p,b0h,c0p");
        due("a is put first, and granted at once", x.ask(0, 0, 3), 0);
        dueQueue(x, 0, "b3c1");
        HotPanLocks y = after("a0p,b0p,c0h");
        due("settled beside another lock", y.ask(1, 0, 2), 0);
        due("the mode", y.lock(1, 0), 2);
    }

    /** Made-up calls; after each of them that does not ask, and after each that asks, no hand waits for itself. */
    private static void noRingIsLeft() {
        long seed = 5;
        for (int run = 0; run < 40; run++) {
            HotPanLocks x = new HotPanLocks();
            x.set(0, 10);
            for (int step = 0; step < 30; step++) {
                for (int part = 0; part < 3; part++) {
                    seed = seed * 6364136223846793005L + 1442695040888963407L;
                    int dice = (int) (seed >>> 33);
                    anyDeed(x, part == 0 ? dice % 4 : 4, dice / 4 % 8, dice / 32 % 2, dice / 64 % 8, dice / 512 % 3 + 1);
                }
                for (int hand = 0; hand < 8; hand++) {
                    due("hand " + hand + " waits for itself", x.waitsFor(hand) >> hand & 1, 0);
                }
            }
        }
    }

    private static void anyDeed(HotPanLocks x, int kind, int hand, int row, int other, int mode) {
        try {
            switch (kind) {
                case 0 -> x.release(hand, row);
                case 1 -> x.giveUp(hand);
                case 2 -> x.handOn(hand, row, other);
                case 3 -> x.pass(mode);
                default -> x.ask(hand, row, mode);
            }
        } catch (IllegalStateException e) {
            return;
        }
    }

    private static void losesAsLongAsThereIsARing() {
        HotPanLocks x = after("a0h,b1h,c1p,b0p");
        due("two lose: c without work, then b, the greater of equals", x.ask(0, 1, 3), 0);
        due("in all", x.count(4), 2);
        due("c lost", x.hand(2, 6), 1);
        due("b lost", x.hand(1, 6), 1);
        due("a has both rows", x.hand(0, 1), 6);
        HotPanLocks y = after("d0h,c1h,d1h,f0p");
        due("three in the ring, and f's place between is gone: f and d lose", y.ask(2, 0, 1), 0);
        due("in all", y.count(4), 2);
        HotPanLocks z = after("a0h,b1h,c2h,d0s,e0s,f0s", "a1p,b2p");
        due("f, e and d have no work, then c loses, the greatest of equals", z.ask(2, 0, 1), 2);
        due("in all", z.count(4), 4);
        due("a and b did not lose", z.hand(0, 6) + z.hand(1, 6), 0);
        HotPanLocks w = after("a0h,b1h,c2h,d3p", "a1p,b2p");
        due("no ring, nobody loses", w.ask(2, 3, 1), 0);
        due("in all", w.count(4), 0);
    }

    private static void leastWorkLoses() {
        due("3 against 4: the asker", after("a0h,a5p,b1h,a1p").ask(1, 0, 1), 2);
        due("4 against 3: the other one", after("a0h,b5p,b1h,a1p").ask(1, 0, 1), 0);
        due("work, not the number of locks: 5 in one and two against 4 in four",
                after("a0h,a5s,b1p,b2p,b3p,b4p,a1h").ask(1, 0, 1), 2);
        due("work, not the greatest mode: 3 in one against 4 in four",
                after("a0h,b1p,b2p,b3p,b4p,a1h").ask(1, 0, 1), 0);
        due("a lesser lock counts as it is, not as what is asked", after("a0p,b0p,c3p,b3p,a0h").ask(1, 0, 2), 0);
    }

    private static void greatestNumberOfEqualsLoses() {
        HotPanLocks x = after("a0h,b1h,c2h,b2p,c0p");
        due("a asks, c loses", x.ask(0, 1, 1), 1);
        due("c lost", x.hand(2, 6), 1);
        due("b has row 2", x.lock(1, 2), 1);
        HotPanLocks y = after("h0h,g1h,h1p");
        due("g asks, h loses", y.ask(6, 0, 1), 0);
        due("h lost", y.hand(7, 6), 1);
        HotPanLocks z = after("h0h,g1h,f2h,f5p,h1p,g2p");
        due("f asks, and has more work; of g and h it is h", z.ask(5, 0, 1), 0);
        due("h lost", z.hand(7, 6), 1);
        due("g did not", z.hand(6, 6), 0);
    }

    private static void allIsGoneFromALoser() {
        HotPanLocks x = after("h0h,h7p,h11h,a1h,a2h,a3h,b0p,c11p,h1p");
        due("h has 7, a 9: h loses", x.ask(0, 7, 3), 0);
        for (int row = 0; row < 12; row++) {
            due("lock of h on row " + row, x.lock(7, row), 0);
        }
        due("request of h", x.hand(7, 2), NONE);
        due("its mode", x.hand(7, 3), 0);
        due("queue of row 1", x.row(1, 3), 0);
        due("h is not granted for it", x.hand(7, 7), 3);
        due("h is not burnt", x.hand(7, 5), 0);
        due("b got the first row", x.lock(1, 0), 1);
        due("c got the last row", x.lock(2, 11), 1);
        due("locks", x.count(0), 6);
    }

    /** All peek at rows 0, 5 and 11; the loser holds row 1, the other one rows 2 and 3, and each asks for the other's. */
    private static void nothingIsGoneFromOthers(int loser, int other) {
        HotPanLocks x = new HotPanLocks();
        for (int hand = 0; hand < 8; hand++) {
            x.ask(hand, 0, 1);
            x.ask(hand, 5, 1);
            x.ask(hand, 11, 1);
        }
        x.ask(loser, 1, 3);
        x.ask(other, 2, 3);
        x.ask(other, 3, 3);
        x.ask(other, 1, 3);
        due("it loses", x.ask(loser, 2, 3), 2);
        due("it waits for nobody", x.hand(loser, 4) + x.waitsFor(loser), 0);
        for (int hand = 0; hand < 8; hand++) {
            for (int row = 0; row < 12; row++) {
                int had = row == 0 || row == 5 || row == 11 ? 1 : 0;
                int want = hand == loser ? 0 : hand == other && row >= 1 && row <= 3 ? 3 : had;
                due("lock of hand " + hand + " on row " + row, x.lock(hand, row), want);
            }
        }
    }

    private static void eachHandLosesAlone() {
        for (int loser = 0; loser < 8; loser++) {
            nothingIsGoneFromOthers(loser, (loser + 1) % 8);
            nothingIsGoneFromOthers(loser, (loser + 7) % 8);
        }
    }

    /** Hands 1 to 6 wait in this order for row 0, which hand 0 holds; then hand 0 asks for what one of them has. */
    private static void losersWaitForNobody() {
        for (int last = 1; last <= 6; last++) {
            HotPanLocks x = new HotPanLocks();
            x.ask(0, 0, 3);
            x.ask(last, 1, 1);
            x.ask(7, 1, 1);
            for (int hand = 1; hand <= 6; hand++) {
                x.ask(hand, 0, 1);
            }
            due("it waits for hand 7, which is in no ring", x.ask(0, 1, 3), 1);
            for (int hand = 1; hand <= 6; hand++) {
                boolean lost = hand <= last;
                due("hand " + hand + ", up to the one that had row 1, lost", x.hand(hand, 6), lost ? 1 : 0);
                due("the row for which it waits", x.hand(hand, 2), lost ? NONE : 0);
                due("for whom it waits", x.hand(hand, 4), lost ? 0 : 1 | (1 << hand) - (2 << last));
                due("also over others", x.waitsFor(hand), lost ? 0 : 128 | 1 | (1 << hand) - (2 << last));
            }
        }
    }

    private static void rowsOfALoserAreSettled() {
        HotPanLocks x = after("a0p,a2h,h1h,h0h,g0p");
        dueQueue(x, 0, "h3g1");
        due("h loses", x.ask(0, 1, 1), 0);
        due("the row on which it had but a request is settled", x.lock(6, 0), 1);
        due("g waits no more", x.hand(6, 2), NONE);
        HotPanLocks y = after("a0h,b1h,b9h,c9p,a1p,d1p");
        due("a loses itself: 3 against 6", y.ask(1, 0, 1), 0);
        due("row 1: d behind a still waits for b", y.hand(3, 4), 2);
        HotPanLocks z = after("b1h,b9h,c9p,a0h,a5h,a6h,a1p,d1p,e9p");
        due("the asker loses: rows 1 and 9 are settled", z.ask(1, 0, 1), 2);
        due("row 1", z.row(1, 2), 1 | 8);
        due("row 9", z.row(9, 2), 4 | 16);
        due("granted: five at first, four by the loss", z.count(6), 5 + 4);
    }

    private static void rings() {
        section("Rings");
        holds("A hand that waits waits for some hands: for each other hand that has a lock on the row of its request with"
                + " a mode that clashes with that of the request, and for each hand that has a request ahead of its own"
                + " one in that queue.", HotPanLocksTermsTest::forWhomItWaits);
        holds("A hand is in a ring if it waits, perhaps over others, for itself", HotPanLocksTermsTest::ringOfTwo);
        holds("A hand is in a ring if it waits, perhaps over others, for itself", HotPanLocksTermsTest::ringOfEight);
        holds("the ring of it are all hands for which it waits, perhaps over others, and that wait, perhaps over others,"
                + " for it (so it belongs to it)", HotPanLocksTermsTest::notInTheRing);
        holds("When a hand has asked, its row is settled.", HotPanLocksTermsTest::settledWhenAsked);
        holds("(Nothing but asking makes a ring.)", HotPanLocksTermsTest::noRingIsLeft);
        holds("Then, as long as this hand is in a ring, one hand of its ring loses",
                HotPanLocksTermsTest::losesAsLongAsThereIsARing);
        holds("the one with the least work", HotPanLocksTermsTest::leastWorkLoses);
        holds("of several the one with the greatest number", HotPanLocksTermsTest::greatestNumberOfEqualsLoses);
        holds("all its locks and its request are gone", HotPanLocksTermsTest::allIsGoneFromALoser);
        holds("all its locks and its request are gone", HotPanLocksTermsTest::eachHandLosesAlone);
        holds("all its locks and its request are gone", HotPanLocksTermsTest::losersWaitForNobody);
        holds("and then the rows on which it had a lock or a request are settled, by ascending numbers",
                HotPanLocksTermsTest::rowsOfALoserAreSettled);
    }

    // ---- heat

    /** 60 a tick; the first of those who hold row 0 is burnt at 960, the next at 1000. */
    private static HotPanLocks hottest() {
        HotPanLocks x = new HotPanLocks();
        x.set(0, 900);
        x.set(1, 20);
        did(x, "a0h,b0h,c0h");
        x.pass(15);
        return x;
    }

    private static void boundsOfHeat() {
        HotPanLocks x = new HotPanLocks();
        for (int row = 0; row < 12; row++) {
            due("heat at first", x.row(row, 0), 0);
        }
        x.pass(1);
        due("not below 0", x.row(0, 0), 0);
        HotPanLocks y = hottest();
        due("after 15 ticks", y.row(0, 0), 900);
        y.pass(1);
        due("after 16", y.row(0, 0), 960);
        y.pass(1);
        due("not above 1000", y.row(0, 0), 1000);
        y.pass(1);
        due("still not", y.row(0, 0), 1000);
        due("all three were burnt", y.count(3), 3);
        HotPanLocks z = hottest();
        due("b gets the row", z.release(0, 0), 1);
        z.release(1, 0);
        z.release(2, 0);
        did(z, "a0s,b0s");
        z.pass(1);
        due("940", z.row(0, 0), 940);
        did(z, "b0h,c0h");
        z.pass(1);
        due("exactly 1000 by b's hold", z.row(0, 0), 1000);
    }

    private static void boundOfHeatBelow() {
        HotPanLocks x = after("a0p,b1p,c2p");
        x.pass(1);
        x.release(1, 1);
        x.pass(1);
        x.release(0, 0);
        x.release(2, 2);
        due("1 less 2", x.row(1, 0), 0);
        due("two ticks of peeking", x.row(0, 0), 2);
        x.pass(1);
        due("2 less 2", x.row(0, 0), 0);
        x.pass(100);
        due("and no further", x.row(0, 0), 0);
        HotPanLocks y = hottest();
        y.set(2, 50);
        y.pass(3);
        due("cooled from 1000 by 50 a tick", y.pass(19), 0);
        due("950 less", y.row(0, 0), 50);
        y.pass(1);
        due("all", y.row(0, 0), 0);
        y.pass(1);
        due("no more", y.row(0, 0), 0);
    }

    private static void heating() {
        HotPanLocks x = new HotPanLocks();
        for (int row = 0; row < 12; row++) {
            x.ask(row % 8, row, row % 3 + 1);
        }
        x.pass(1);
        for (int row = 0; row < 12; row++) {
            due("each row by the mode of its lock", x.row(row, 0), row % 3 + 1);
        }
        HotPanLocks y = after("a0p,b0s,c0p,h1p,a1h", "d2p,e2p,f2p");
        y.pass(1);
        due("by the greatest mode, not the sum, nor the last", y.row(0, 0), 2);
        due("a request does not heat", y.row(1, 0), 1);
        due("three peeks", y.row(2, 0), 1);
        y.set(1, 7);
        y.pass(2);
        due("times setting 1", y.row(0, 0), 2 + 2 * 2 * 7);
        y.set(1, 0);
        y.pass(1);
        due("times 0", y.row(0, 0), 30);
        y.release(1, 0);
        y.set(1, 1);
        y.pass(1);
        due("by the peeks that are left", y.row(0, 0), 31);
    }

    private static void cooling() {
        HotPanLocks x = after("a0h,b11h");
        x.pass(10);
        x.release(0, 0);
        x.release(1, 11);
        x.pass(1);
        due("less by 2", x.row(0, 0), 28);
        due("the last row too", x.row(11, 0), 28);
        x.set(2, 0);
        x.pass(5);
        due("less by 0", x.row(0, 0), 28);
        x.set(2, 9);
        x.pass(3);
        due("less by 9 each", x.row(0, 0), 1);
    }

    private static void allRowsAreHeated() {
        HotPanLocks x = new HotPanLocks();
        for (int row = 0; row < 12; row++) {
            x.ask(0, row, 3);
        }
        x.pass(1);
        for (int row = 0; row < 12; row++) {
            due("heat of row " + row, x.row(row, 0), 3);
            x.release(0, row);
        }
        x.pass(1);
        for (int row = 0; row < 12; row++) {
            due("heat of row " + row + ", cooling", x.row(row, 0), 1);
        }
        HotPanLocks y = after("a0h,b11h,c0p,d11p");
        y.set(0, 10);
        due("a burnt row does not stop the others", y.pass(4), 2);
        due("heat of the first row", y.row(0, 0), 12);
        due("heat of the last row", y.row(11, 0), 12);
    }

    private static void burntAboveWhatIsBorne() {
        HotPanLocks x = after("a0p,b1s,c2h");
        due("at 60 it is not above 60", x.pass(20), 0);
        due("heat", x.row(2, 0), 60);
        due("at 63 it is", x.pass(1), 1);
        due("c", x.hand(2, 5), 1);
        due("at 60 by twos", x.pass(9), 0);
        due("at 62", x.pass(1), 1);
        due("at 60 by ones", x.pass(29), 0);
        due("at 61", x.pass(1), 1);
        due("heat of row 0 stays", x.row(0, 0), 61);
        due("no lock is left", x.count(0), 0);
        due("three burnt", x.count(3), 3);
    }

    private static void allHoldersAreBurnt() {
        HotPanLocks x = after("a4p,b4p,c4p,d4p,e4p,f4p,g4p,h4p", "h11p,a0p,a3p");
        due("all eight, and those of rows 0, 3 and 11", x.pass(61), 11);
        for (int hand = 0; hand < 8; hand++) {
            due("burnt, each lock counts", x.hand(hand, 5), hand == 0 ? 3 : hand == 7 ? 2 : 1);
        }
        due("locks", x.count(0), 0);
        due("only of the hot row", afterHot("b5p").lock(1, 5), 1);
    }

    /** Row 0 is hot, at 63, and a was burnt; then requests. */
    private static HotPanLocks afterHot(String text) {
        HotPanLocks x = after("a0h");
        x.pass(21);
        return did(x, text);
    }

    private static void requestsStay() {
        HotPanLocks x = after("a0p,b0p,c0s,a0s,b0s,d0h,e0p");
        due("three are burnt", x.pass(31), 3);
        due("a, the first, is granted", x.lock(0, 0), 2);
        dueQueue(x, 0, "b2d3e1");
        HotPanLocks y = after("a0h,b1h,b0p,a5p");
        due("one that waits elsewhere is burnt, and waits on", y.pass(21), 2);
        due("b lost row 1 and got row 0", y.lock(1, 0), 1);
        HotPanLocks z = after("a0h,b5h,b0p");
        z.set(0, 10);
        z.release(0, 0);
        due("granted as ever", z.lock(1, 0), 1);
    }

    private static void settledIfSomeWereBurnt() {
        HotPanLocks x = afterHot("b5p");
        due("a hot row without holders: nobody is burnt", x.pass(1), 0);
        due("heat", x.row(0, 0), 61);
        due("burnt so far", x.count(3), 1);
        HotPanLocks y = afterHot("b0h,c0p,d0p");
        due("b is burnt at once; then both peeks are granted", y.pass(1), 1);
        due("holders", y.row(0, 2), 4 | 8);
        due("both are burnt by the next tick", y.pass(1), 2);
        due("nobody is left", y.row(0, 2), 0);
        due("granted", y.count(6), 4);
        HotPanLocks z = after("a0h,b0h,c0h,d0h,e0h,f0h,g0h,h0h");
        due("one a tick, in one call", z.pass(28), 8);
        due("all were granted", z.count(6), 8);
    }

    private static void heat() {
        section("Heat");
        holds("Each row has a heat, 0 to 1000, at first 0.", HotPanLocksTermsTest::boundsOfHeat);
        holds("the heat of each row becomes greater by the greatest mode of the locks on it times setting 1",
                HotPanLocksTermsTest::heating);
        holds("or, if there is none, less by setting 2", HotPanLocksTermsTest::cooling);
        holds("within these bounds", HotPanLocksTermsTest::boundOfHeatBelow);
        holds("this is done for all rows", HotPanLocksTermsTest::allRowsAreHeated);
        holds("if its heat is above setting 0", HotPanLocksTermsTest::burntAboveWhatIsBorne);
        holds("all its holders are burnt", HotPanLocksTermsTest::allHoldersAreBurnt);
        holds("(requests stay)", HotPanLocksTermsTest::requestsStay);
        holds("and then, if some were, the row is settled", HotPanLocksTermsTest::settledIfSomeWereBurnt);
    }

    // ---- settings

    private static void bounds(int setting, int least, int greatest, int first) {
        HotPanLocks x = new HotPanLocks();
        due("at first", x.setting(setting), first);
        due("to the least", x.set(setting, least), first);
        due("the least", x.setting(setting), least);
        due("to the greatest", x.set(setting, greatest), least);
        due("the greatest", x.setting(setting), greatest);
        for (int other = 0; other < 3; other++) {
            due("setting " + other, x.setting(other), other == setting ? greatest : new int[] {60, 1, 2}[other]);
        }
        refused("too small", Sentences::rich, ARGUMENT, y -> y.set(setting, least - 1));
        refused("too large", Sentences::rich, ARGUMENT, y -> y.set(setting, greatest + 1));
    }

    private static void heatThatIsBorne() {
        bounds(0, 10, 900, 60);
        HotPanLocks x = after("a0p,b1p");
        x.set(0, 10);
        due("10 is borne", x.pass(10), 0);
        due("11 is not", x.pass(1), 2);
        HotPanLocks y = hottest();
        due("900 is borne", y.count(3), 0);
        due("960 is not", y.pass(1), 1);
    }

    private static void theHeating() {
        bounds(1, 0, 20, 1);
        HotPanLocks x = after("a0h");
        x.set(1, 0);
        x.pass(100);
        due("no heating", x.row(0, 0), 0);
        x.set(1, 20);
        x.pass(1);
        due("the greatest heating", x.row(0, 0), 60);
    }

    private static void theCooling() {
        bounds(2, 0, 50, 2);
        HotPanLocks x = after("a0h");
        x.pass(20);
        x.release(0, 0);
        x.set(2, 0);
        x.pass(100);
        due("no cooling", x.row(0, 0), 60);
        x.set(2, 50);
        x.pass(1);
        due("the greatest cooling", x.row(0, 0), 10);
    }

    private static void settings() {
        section("Settings");
        holds("0: the heat that is borne, 10 to 900, at first 60", HotPanLocksTermsTest::heatThatIsBorne);
        holds("1: the heating, 0 to 20, at first 1", HotPanLocksTermsTest::theHeating);
        holds("2: the cooling, 0 to 50, at first 2", HotPanLocksTermsTest::theCooling);
    }

    // ---- input text

    private static final String FULL = "a10p,b1s,c2h,d3p,e4p,f5s,g6h,h7p,a8p,b9s,c0h,d0s,e1s,f2p,g3h";

    private static void sixtyCharacters() {
        HotPanLocks x = new HotPanLocks();
        for (int length = 1; length <= 60; length++) {
            due("character " + length, x.append('~'), length);
        }
        refused("the 61st", () -> typed("~".repeat(60)), STATE, y -> y.append('~'));
        due("length", x.clearBuffer(), 60);
        due("a full row of requests", typed(FULL).firstError(), FULL.length());
        due("its length", FULL.length(), 60);
    }

    private static void oneOrMoreRequests() {
        refused("none", HotPanLocks::new, ARGUMENT, HotPanLocks::run);
        due("one", typed("a0p").run(), 1);
        due("two", typed("a0p,a1p").run(), 2);
        due("as many as there is room for", typed(FULL).run(), 15);
        due("fifteen, all carried out", typed("a0p,b0p,c0p,d0p,e0p,f0p,g0p,h0p,a1p,b1p,c1p,d1p,e1p,f1p,g11p").run(), 15);
        for (String bad : new String[] {",", "a0p,", ",a0p", "a0p,,b0p", "a0pb0p", "a0p;b0p", "a0p.", "a0p,b0p,"}) {
            refused("run of " + bad, () -> typed(bad), ARGUMENT, HotPanLocks::run);
        }
    }

    private static void lettersOfHands() {
        for (int hand = 0; hand < 8; hand++) {
            HotPanLocks x = typed((char) ('a' + hand) + "5s");
            due("run", x.run(), 1);
            for (int other = 0; other < 8; other++) {
                due("hand " + other, x.lock(other, 5), other == hand ? 2 : 0);
            }
        }
        for (String bad : new String[] {"`", "i", "A", "H", "0", "p", "s", "-", "~", "!"}) {
            due("no hand " + bad, typed(bad).firstError(), 0);
            due("no second hand " + bad, typed("a0p," + bad).firstError(), 4);
            refused("run of hand " + bad, () -> typed(bad + "5s"), ARGUMENT, HotPanLocks::run);
        }
    }

    private static void numbersOfRows() {
        for (int row = 0; row < 12; row++) {
            HotPanLocks x = typed("c" + row + "h");
            due("no error", x.firstError(), row > 9 ? 4 : 3);
            due("run", x.run(), 1);
            for (int other = 0; other < 12; other++) {
                due("row " + other, x.lock(2, other), other == row ? 3 : 0);
            }
        }
        String[] bad = {"12", "13", "19", "20", "99", "100", "110", "111", "-1", "", "x"};
        int[] at = {2, 2, 2, 2, 2, 3, 3, 3, 1, 1, 1};
        for (int place = 0; place < bad.length; place++) {
            String text = "c" + bad[place] + "h";
            due("no row " + bad[place], typed(text).firstError(), at[place]);
            refused("run of " + text, () -> typed(text), ARGUMENT, HotPanLocks::run);
        }
    }

    private static void noLeadingZeros() {
        for (String bad : new String[] {"00", "01", "07", "09", "010", "011"}) {
            due("row " + bad, typed("c" + bad + "h").firstError(), 2);
            refused("run of row " + bad, () -> typed("c" + bad + "h"), ARGUMENT, HotPanLocks::run);
        }
        due("0 alone", typed("c0h").run(), 1);
        due("a zero at the end", typed("c10h").run(), 1);
    }

    private static void lettersOfDeeds() {
        due("p", lockAfter("a0p"), 1);
        due("s", lockAfter("a0s"), 2);
        due("h", lockAfter("a0h"), 3);
        due("-", lockAfter("a0h,a0-"), 0);
        for (String bad : new String[] {"P", "S", "H", "o", "q", "r", "t", "g", "i", "_", ".", "+", "/", ":", ",", "a"}) {
            due("no deed " + bad, typed("a5" + bad).firstError(), 2);
            due("no deed behind two digits " + bad, typed("a11" + bad).firstError(), 3);
            refused("run with deed " + bad, () -> typed("a5" + bad), ARGUMENT, HotPanLocks::run);
        }
    }

    private static int lockAfter(String text) {
        return after(text).lock(0, 0);
    }

    private static void whatIsASyntaxError() {
        due("none, for a row of requests could go on", typed("a0p,b1").firstError(), 6);
        due("1 could become 10 or 11", typed("a1").firstError(), 2);
        due("10 could not become more", typed("a100").firstError(), 3);
        due("a comma could go on", typed("a0p,").firstError(), 4);
        due("also at the end of a full buffer", typed("a10p,".repeat(12)).firstError(), 60);
        due("or within a request that has no room", typed("a0p,".repeat(14) + "a0p,").firstError(), 60);
        due("the 60th is one", typed("a0p,".repeat(14) + "a0pp").firstError(), 59);
        due("the first of several", typed("xyz").firstError(), 0);
        due("what is right behind it does not matter", typed("a0,b1p,c2p").firstError(), 2);
    }

    private static void inputText() {
        section("Input text");
        holds("The buffer has at most 60 characters.", HotPanLocksTermsTest::sixtyCharacters);
        holds("A row of requests as a text consists of one or more of them separated by \",\"",
                HotPanLocksTermsTest::oneOrMoreRequests);
        holds("each one a letter \"a\" to \"h\" for the hands 0 to 7", HotPanLocksTermsTest::lettersOfHands);
        holds("the number of a row, 0 to 11", HotPanLocksTermsTest::numbersOfRows);
        holds("without leading zeros", HotPanLocksTermsTest::noLeadingZeros);
        holds("and \"p\", \"s\" or \"h\" (it asks to peek, stir or hold) or \"-\" (it releases it)",
                HotPanLocksTermsTest::lettersOfDeeds);
        holds("The buffer is read from left to right; a character is a syntax error if no row of requests, of any length,"
                + " begins with the characters before it and this character.", HotPanLocksTermsTest::whatIsASyntaxError);
    }

    // ---- undo

    private static void undoableSaves() {
        Start rich = Sentences::rich;
        undoable("ask", rich, x -> x.ask(6, 3, 2), 0);
        undoable("release", rich, x -> x.release(2, 0), 1);
        undoable("giveUp", rich, x -> x.giveUp(3), 1);
        undoable("handOn", rich, x -> x.handOn(1, 1, 3), 1);
        undoable("pass", rich, x -> x.pass(100), 8);
        undoable("cool", rich, x -> x.cool(5), 0);
        undoable("set", rich, x -> x.set(0, 10), 60);
        HotPanLocks x = rich.made();
        x.clearBuffer();
        due("run", type(x, "g4p,g5p").run(), 2);
        due("saved", x.count(9), 3);
        due("undo", x.undo(), 2);
        HotPanLocks y = rich.made();
        y.clearBuffer();
        dueText("all that can be told after run and undo", whole(x), whole(y));
    }

    /** The call is not marked: it saves no state. */
    private static void savesNothing(String what, Start start, Call call, long want, int saved) {
        HotPanLocks x = start.made();
        due(what, call.on(x), want);
        due(what + ", saved states", x.count(9), saved);
    }

    private static void othersSaveNothing() {
        Start rich = Sentences::rich;
        savesNothing("append", rich, x -> x.append('4'), 6, 2);
        savesNothing("clearBuffer", rich, x -> x.clearBuffer(), 5, 2);
        savesNothing("firstError", rich, x -> x.firstError(), 5, 2);
        savesNothing("undo", rich, x -> x.undo(), 1, 1);
        savesNothing("ifAsked", rich, x -> x.ifAsked(6, 0, 3, 0), 1, 2);
        savesNothing("digest", rich, x -> x.digest() - x.digest(), 0, 2);
    }

    private static void throwersSaveNothing() {
        Start rich = Sentences::rich;
        refused("ask", rich, STATE, x -> x.ask(0, 5, 1));
        refused("release", rich, STATE, x -> x.release(6, 0));
        refused("giveUp", rich, STATE, x -> x.giveUp(6));
        refused("handOn", rich, STATE, x -> x.handOn(1, 1, 0));
        refused("pass", rich, ARGUMENT, x -> x.pass(0));
        refused("cool", rich, STATE, x -> x.cool(0));
        refused("set", rich, ARGUMENT, x -> x.set(0, 9));
        refused("run", rich, ARGUMENT, x -> x.run());
    }

    private static void savedAlthoughNothingChanges() {
        Start rich = Sentences::rich;
        undoable("cool of a cold row", rich, x -> x.cool(11), 0);
        undoable("set to the same value", rich, x -> x.set(2, 2), 2);
        HotPanLocks x = after("a0h,b0p");
        due("run, none is carried out", type(x, "b1p").run(), 0);
        due("saved", x.count(9), 2);
        HotPanLocks y = after("a0h,b0p");
        x.undo();
        dueText("all that can be told", whole(x), whole(y));
    }

    private static void countsAreRestored() {
        Start start = () -> {
            HotPanLocks x = after("a0h,b1h,c2p,d2p,c2h,e5h,f5p");
            x.set(0, 10);
            x.handOn(4, 5, 5);
            return x;
        };
        HotPanLocks x = start.made();
        did(x, "a1p,b0p,g2p");
        x.handOn(3, 2, 2);
        x.pass(9);
        due("ticks", x.count(2), 9);
        due("burnt: a on row 0, c and then g on row 2", x.count(3), 3);
        due("lost: b", x.count(4), 1);
        due("handed on: rows 5 and 2", x.count(5), 2);
        for (int step = 0; step < 3; step++) {
            x.undo();
        }
        HotPanLocks y = start.made();
        for (int what = 0; what <= 9; what++) {
            due("count " + what, x.count(what), y.count(what));
        }
        for (int hand = 0; hand < 8; hand++) {
            for (int what = 0; what <= 8; what++) {
                due("part " + what + " of hand " + hand, x.hand(hand, what), y.hand(hand, what));
            }
        }
        due("how often row 2 was handed on", x.row(2, 4), 0);
        due("how often row 5 was handed on", x.row(5, 4), 1);
        dueText("all that can be told", whole(x), whole(y));
    }

    private static void bufferIsNotRestored() {
        HotPanLocks x = typed("a0p");
        x.set(0, 10);
        type(x, ",b");
        x.undo();
        due("what was typed since stays", x.clearBuffer(), 5);
        x.set(0, 10);
        x.undo();
        due("what was cleared stays cleared", x.clearBuffer(), 0);
        HotPanLocks y = after("a0p,b1p");
        y.undo();
        due("what was carried out is not typed again", y.clearBuffer(), 0);
    }

    private static void savedStatesAreNotRestored() {
        HotPanLocks x = new HotPanLocks();
        x.set(1, 2);
        x.set(1, 3);
        x.set(1, 4);
        due("left", x.undo(), 2);
        due("left, not as many as were saved then", x.undo(), 1);
        x.set(1, 9);
        due("a state saved since is the latest", x.undo(), 1);
        due("its heating", x.setting(1), 2);
        due("left", x.undo(), 0);
        due("the first", x.setting(1), 1);
        refused("no more", HotPanLocks::new, STATE, HotPanLocks::undo);
    }

    private static void sixStatesAtMost() {
        for (int times = 1; times <= 20; times++) {
            HotPanLocks x = new HotPanLocks();
            for (int time = 1; time <= times; time++) {
                x.set(2, 10 + time);
                due("saved", x.count(9), Math.min(6, time));
            }
            for (int back = 1; back <= Math.min(6, times); back++) {
                due("left", x.undo(), Math.min(6, times) - back);
                due(back + " back from " + times, x.setting(2), back == times ? 2 : 10 + times - back);
            }
            due("none is left", x.count(9), 0);
        }
        refused("a seventh undo", () -> undone(7, 6), STATE, HotPanLocks::undo);
    }

    private static HotPanLocks undone(int sets, int undos) {
        HotPanLocks x = new HotPanLocks();
        for (int time = 1; time <= sets; time++) {
            x.set(2, 10 + time);
        }
        for (int time = 0; time < undos; time++) {
            x.undo();
        }
        return x;
    }

    private static void oldestIsDropped() {
        for (int undos = 0; undos <= 6; undos++) {
            HotPanLocks x = undone(9, undos);
            for (int time = 1; time <= undos + 1; time++) {
                x.set(2, 30 + time);
            }
            due("six again", x.count(9), 6);
            for (int back = undos; back >= 1; back--) {
                x.undo();
                due("of those saved since", x.setting(2), 30 + back);
            }
            for (int older = undos; older < 6; older++) {
                x.undo();
                due("of those saved before", x.setting(2), 10 + 9 - older);
            }
            due("none is left", x.count(9), 0);
        }
    }

    private static void undoing() {
        section("Undo");
        holds("Each method that is marked \"undoable\"", HotPanLocksTermsTest::undoableSaves);
        holds("Each method that is marked \"undoable\"", HotPanLocksTermsTest::othersSaveNothing);
        holds("and does not throw an exception", HotPanLocksTermsTest::throwersSaveNothing);
        holds("(also if it changes nothing)", HotPanLocksTermsTest::savedAlthoughNothingChanges);
        holds("all, also what is counted so far", HotPanLocksTermsTest::countsAreRestored);
        holds("but the buffer", HotPanLocksTermsTest::bufferIsNotRestored);
        holds("and the saved states", HotPanLocksTermsTest::savedStatesAreNotRestored);
        holds("At most 6 states are saved", HotPanLocksTermsTest::sixStatesAtMost);
        holds("the oldest one is dropped first", HotPanLocksTermsTest::oldestIsDropped);
    }

    // ---- exceptions

    private static HotPanLocks richAndFull() {
        HotPanLocks x = rich();
        return type(x, "~".repeat(55));
    }

    private static void throwersChangeNothing() {
        Start full = HotPanLocksTermsTest::richAndFull;
        refused("ask, no mode", full, ARGUMENT, x -> x.ask(6, 5, 4));
        refused("ask, waits", full, STATE, x -> x.ask(5, 0, 3));
        refused("release, no lock", full, STATE, x -> x.release(3, 1));
        refused("release, waits for it", full, STATE, x -> x.release(0, 0));
        refused("giveUp", full, STATE, x -> x.giveUp(2));
        refused("handOn, clashes", full, STATE, x -> x.handOn(1, 0, 0));
        refused("handOn, no such other", full, INDEX, x -> x.handOn(1, 1, 8));
        refused("pass", full, ARGUMENT, x -> x.pass(101));
        refused("cool", full, STATE, x -> x.cool(1));
        refused("set, no setting", full, INDEX, x -> x.set(3, 10));
        refused("set, no value", full, ARGUMENT, x -> x.set(1, 21));
        refused("append, no code", full, ARGUMENT, x -> x.append(127));
        refused("append, full", full, STATE, x -> x.append('a'));
        refused("run", full, ARGUMENT, HotPanLocks::run);
        refused("undo", () -> typed("a0p"), STATE, HotPanLocks::undo);
        refused("lock", full, INDEX, x -> x.lock(8, 0));
        refused("hand", full, ARGUMENT, x -> x.hand(0, 9));
        refused("row", full, ARGUMENT, x -> x.row(0, 6));
        refused("request", full, ARGUMENT, x -> x.request(0, 8, 0));
        refused("count", full, ARGUMENT, x -> x.count(10));
        refused("setting", full, INDEX, x -> x.setting(3));
        refused("ifAsked", full, ARGUMENT, x -> x.ifAsked(6, 0, 3, 3));
        refused("takers", full, INDEX, x -> x.takers(0, 12));
        refused("burnsIn", full, INDEX, x -> x.burnsIn(12));
        refused("waitsFor", full, INDEX, x -> x.waitsFor(8));
    }

    private static void firstNamedIsThrown() {
        Start full = HotPanLocksTermsTest::richAndFull;
        refused("ask: no row, no mode, waits", full, INDEX, x -> x.ask(0, 12, 4));
        refused("ask: no row, no mode", full, INDEX, x -> x.ask(6, -1, 0));
        refused("ask: no row, waits", full, INDEX, x -> x.ask(0, 12, 1));
        refused("ask: no hand, no mode", full, INDEX, x -> x.ask(8, 0, 0));
        refused("ask: no mode, waits", full, ARGUMENT, x -> x.ask(0, 5, 0));
        refused("release: no row, no lock", full, INDEX, x -> x.release(6, 12));
        refused("handOn: no other, no lock", full, INDEX, x -> x.handOn(6, 0, 8));
        refused("handOn: no other, waits for it", full, INDEX, x -> x.handOn(0, 0, -1));
        refused("handOn: no row, other does not wait", full, INDEX, x -> x.handOn(1, 12, 6));
        refused("set: no setting, no value", full, INDEX, x -> x.set(3, -1));
        refused("append: no code, full", full, ARGUMENT, x -> x.append(32));
        refused("hand: no hand, no what", full, INDEX, x -> x.hand(8, 9));
        refused("row: no row, no what", full, INDEX, x -> x.row(-1, -1));
        refused("request: no row, no place, no what", full, INDEX, x -> x.request(12, 8, 2));
        refused("ifAsked: no hand, no mode, no what", full, INDEX, x -> x.ifAsked(8, 0, 0, 3));
        refused("ifAsked: no row, no what", full, INDEX, x -> x.ifAsked(0, 12, 1, -1));
        refused("ifAsked: no what, and waits", full, ARGUMENT, x -> x.ifAsked(0, 0, 1, 3));
        refused("ifAsked: no mode, and waits", full, ARGUMENT, x -> x.ifAsked(0, 0, 4, 0));
    }

    private static void nothingToReturn() {
        HotPanLocks x = new HotPanLocks();
        due("the constant", HotPanLocks.NONE, -1);
        due("no row for which it waits", x.hand(0, 2), -1);
        due("no first request", x.row(0, 5), -1);
        due("no request", x.request(0, 0, 0), -1);
        due("no burning", x.burnsIn(0), -1);
        due("no busiest", x.busiest(), -1);
        due("no asking", after("a0h,b0p").ifAsked(1, 3, 1, 0), -1);
    }

    private static void lookingChangesNothing() {
        Start rich = Sentences::rich;
        told("ifAsked, granted", rich, x -> x.ifAsked(6, 7, 3, 0), 0);
        told("ifAsked, waits", rich, x -> x.ifAsked(6, 0, 1, 0), 1);
        told("ifAsked, loses", () -> after("a0h,b1h,a1p"), x -> x.ifAsked(1, 0, 1, 0), 2);
        told("ifAsked, another loses", () -> after("a0h,b1h,b2p,a1p"), x -> x.ifAsked(1, 0, 1, 1), 1);
        told("ifAsked, nothing to be done", rich, x -> x.ifAsked(1, 1, 1, 0), 0);
        told("takers", rich, x -> x.takers(1, 1), 8);
        told("burnsIn", rich, x -> x.burnsIn(1), 18);
        told("waitsFor", rich, x -> x.waitsFor(5), 7);
        told("busiest", rich, HotPanLocks::busiest, 1);
        told("grantedShare", rich, x -> (long) (x.grantedShare() * 1000), 625);
        told("digest", rich, x -> x.digest() - rich.made().digest(), 0);
    }

    private static void exceptions() {
        section("Exceptions");
        holds("A call that throws an exception changes nothing.", HotPanLocksTermsTest::throwersChangeNothing);
        holds("If several exceptions apply, the one that is named first in the throws clause is thrown.",
                HotPanLocksTermsTest::firstNamedIsThrown);
        holds("The constants: `NONE = -1`: There is nothing to return.", HotPanLocksTermsTest::nothingToReturn);
        namesNoEdge(
                "Ahead of the calls `ask`, `release`, `giveUp`, `handOn`, `pass`, `cool`, `set` the interface says: ---- locks.",
                "Ahead of the calls `append`, `clearBuffer`, `firstError`, `run`, `undo` the interface says: ---- texts.",
                "Ahead of the calls `lock`, `hand`, `row`, `request`, `count`, `setting` the interface says:"
                        + " ---- what there is.");
        holds("Ahead of the calls `ifAsked`, `takers`, `burnsIn`, `waitsFor`, `busiest`, `grantedShare`, `digest` the"
                + " interface says: ---- what would be; nothing is changed.", HotPanLocksTermsTest::lookingChangesNothing);
    }

    public static void main(String[] args) {
        section("What it is");
        namesNoEdge("Row locks that are handed on like a hot pan: hands that peek, stir and hold, queues, locks that are"
                + " made stronger, rings of waiting hands of which one loses, locks that are handed on out of turn, rows"
                + " that become hot while they are held, burnt hands, what would be, requests as texts, and undo.");
        holds("An object is used for at most 512 calls after it has been made; what later calls answer is free.",
                HotPanLocksTermsTest::callsUpToThe512th);
        theFace();
        handsRowsModes();
        queues();
        rings();
        heat();
        settings();
        inputText();
        undoing();
        exceptions();
        end("What it is", "Exceptions");
    }
}
