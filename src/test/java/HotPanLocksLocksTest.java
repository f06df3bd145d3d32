/** Each sentence of promises 1 to 8 that names an edge, and a test that holds it. */
public final class HotPanLocksLocksTest extends Sentences {
    private static final String ITS_NUMBER = "- `hand`: its number";
    private static final String NUMBER_OF_ROW = "- `row`: the number of the row";
    private static final String NO_HAND_OR_ROW = "Throws `IndexOutOfBoundsException` if there is no such hand or row";
    private static final Start RICH = Sentences::rich;

    // ---- promise 1

    private static void handsWithoutLocks() {
        HotPanLocks x = new HotPanLocks();
        for (int hand = 0; hand < 8; hand++) {
            for (int row = 0; row < 12; row++) {
                due("lock", x.lock(hand, row), 0);
            }
            for (int what = 0; what <= 8; what++) {
                due("part " + what + " of hand " + hand, x.hand(hand, what), what == 2 ? NONE : 0);
            }
            due("waitsFor", x.waitsFor(hand), 0);
        }
        for (int what = 0; what <= 9; what++) {
            due("count " + what, x.count(what), 0);
        }
        due("busiest", x.busiest(), NONE);
    }

    private static void coldRows() {
        HotPanLocks x = new HotPanLocks();
        for (int row = 0; row < 12; row++) {
            for (int what = 0; what <= 5; what++) {
                due("part " + what + " of row " + row, x.row(row, what), what == 5 ? NONE : 0);
            }
            for (int place = 0; place < 8; place++) {
                due("request", x.request(row, place, 0), NONE);
            }
            due("burnsIn", x.burnsIn(row), NONE);
        }
    }

    private static void emptyBuffer() {
        due("length", new HotPanLocks().clearBuffer(), 0);
        due("no error", new HotPanLocks().firstError(), 0);
        due("the first character", new HotPanLocks().append('x'), 1);
    }

    private static void objectsAreTheirOwn() {
        HotPanLocks x = rich();
        HotPanLocks y = new HotPanLocks();
        x.ask(6, 6, 3);
        due("locks of another object", y.count(0), 0);
        due("saved states of another object", y.count(9), 0);
        due("buffer of another object", y.clearBuffer(), 0);
        due("and its own stays", x.clearBuffer(), 5);
    }

    private static void aNewObject() {
        section("Promise 1: A new object");
        holds("`HotPanLocks()`: Creates hands without locks", HotPanLocksLocksTest::handsWithoutLocks);
        holds("cold rows", HotPanLocksLocksTest::coldRows);
        holds("and an empty buffer", HotPanLocksLocksTest::emptyBuffer);
        holds("`HotPanLocks()`: Creates hands", HotPanLocksLocksTest::objectsAreTheirOwn);
    }

    // ---- promise 2

    private static void whatAskChanges() {
        changes("granted", RICH, x -> x.ask(6, 3, 2), "lock g3 0>2; granted g 0>1; asked g 0>1; saved 2>3");
        changes("nothing to be done", RICH, x -> x.ask(1, 1, 1), "granted b 2>3; asked b 2>3; saved 2>3");
        changes("waits", RICH, x -> x.ask(6, 0, 1), "queue 0 a2f3>a2f3g1; asked g 0>1; saved 2>3");
        changes("waits, and a loses", RICH, x -> x.ask(2, 0, 3),
                "lock a0 1>0; queue 0 a2f3>c3f3; lost a 0>1; asked c 1>2; saved 2>3");
        changes("c loses, then b itself, of which a has more work", () -> {
            HotPanLocks x = after("a0h,a3p,b1h,c1s,a1p");
            x.pass(2);
            return x;
        }, x -> x.ask(1, 0, 2), "lock a1 0>1; lock b1 3>0; queue 1 c2a1>; granted a 2>3; lost b 0>1; asked b 1>2;"
                + " lost c 0>1; saved 2>3");
    }

    private static void askIsUndoable() {
        undoable("granted", RICH, x -> x.ask(6, 11, 3), 0);
        undoable("nothing to be done", RICH, x -> x.ask(1, 1, 2), 0);
        undoable("waits", RICH, x -> x.ask(6, 1, 1), 1);
        undoable("loses", () -> after("a0h,b1h,a1p,c1p"), x -> x.ask(1, 0, 1), 2);
        undoable("another one loses", () -> after("a0h,b1h,b2p,a1p,c0p"), x -> x.ask(1, 0, 1), 0);
    }

    private static void modesToAskIn() {
        for (int mode = 1; mode <= 3; mode++) {
            HotPanLocks x = new HotPanLocks();
            due("granted", x.ask(7, 11, mode), 0);
            due("lock", x.lock(7, 11), mode);
            x.ask(6, 11, 3);
            due("waits in mode", x.request(11, 0, 1), 3);
        }
    }

    private static void asksAndHasIt() {
        due("a free row", new HotPanLocks().ask(0, 0, 3), 0);
        due("the same mode", after("a0h").ask(0, 0, 3), 0);
        due("a lesser mode", after("a0h,b0h").ask(0, 0, 1), 0);
        due("a stronger one at once", after("a0s").ask(0, 0, 3), 0);
        due("beside one that does not clash", after("a0p").ask(1, 0, 2), 0);
        HotPanLocks x = after("a0h,b1h,b2p,a1p");
        due("because the other one lost", x.ask(1, 0, 3), 0);
        due("the lock", x.lock(1, 0), 3);
    }

    private static void asksAndWaits() {
        due("behind a lock", after("a0h").ask(1, 0, 1), 1);
        due("behind a request", after("a0p,b0h").ask(2, 0, 1), 1);
        due("with a lesser lock", after("a0p,b0p").ask(1, 0, 3), 1);
        HotPanLocks x = after("a0p,c0p,b1h,a1p");
        due("although the other one lost, for c peeks too", x.ask(1, 0, 3), 1);
        due("c alone has it", x.row(0, 2), 4);
        due("a lost", x.hand(0, 6), 1);
        dueQueue(x, 0, "b3");
        HotPanLocks y = after("a0h,b1h,a1p");
        due("it loses", y.ask(1, 0, 1), 2);
        due("it asks again, and waits", y.ask(1, 0, 1), 1);
        y.giveUp(1);
        due("it asks for less, and has it", y.ask(1, 1, 1), 0);
    }

    private static void asksAndLoses() {
        HotPanLocks x = after("a0h,b1h,b5p,b6p,a7s,a8s,a1p");
        due("5 against 7", x.ask(1, 0, 1), 2);
        due("no lock", x.lock(1, 0), 0);
        due("no request", x.hand(1, 2), NONE);
        due("asked all the same", x.hand(1, 8), 4);
        HotPanLocks y = after("a0p,b0p,a0h");
        due("it loses the lesser lock as well", y.ask(1, 0, 2), 2);
        due("lock", y.lock(1, 0), 0);
        due("not granted for it", y.hand(1, 7), 1);
        due("a is", y.lock(0, 0), 3);
    }

    private static void askWhileItWaits() {
        refused("for the row for which it waits", RICH, STATE, x -> x.ask(5, 0, 3));
        refused("in another mode", RICH, STATE, x -> x.ask(5, 0, 1));
        refused("for a free row", RICH, STATE, x -> x.ask(5, 11, 1));
        refused("for what it has", RICH, STATE, x -> x.ask(0, 0, 1));
        refused("the last hand", () -> after("a0h,h0p"), STATE, x -> x.ask(7, 1, 1));
    }

    private static void ask() {
        section("Promise 2: ask");
        namesNoEdge(ITS_NUMBER, NUMBER_OF_ROW);
        holds("A hand asks for a row.", HotPanLocksLocksTest::whatAskChanges);
        holds("Undoable.", HotPanLocksLocksTest::askIsUndoable);
        holds("- `mode`: 1 to 3", HotPanLocksLocksTest::modesToAskIn);
        holds("Returns 0 if it has such a lock then", HotPanLocksLocksTest::asksAndHasIt);
        holds("1 if it waits for it", HotPanLocksLocksTest::asksAndWaits);
        holds("2 if it lost (or has neither).", HotPanLocksLocksTest::asksAndLoses);
        holds(NO_HAND_OR_ROW, () -> {
            refusedEach("hand", RICH, INDEX, NO_HANDS, (x, hand) -> x.ask(hand, 5, 1));
            refusedEach("row", RICH, INDEX, NO_ROWS, (x, row) -> x.ask(6, row, 1));
        });
        holds("Throws `IllegalArgumentException` if mode is out of range", () -> {
            refusedEach("mode", RICH, ARGUMENT, new int[] {0, 4, 5}, (x, mode) -> x.ask(6, 5, mode));
            refusedEach("mode", RICH, ARGUMENT, WILD, (x, mode) -> x.ask(6, 5, mode));
            refused("mode 0 where it has a lock", RICH, ARGUMENT, x -> x.ask(1, 1, 0));
        });
        holds("Throws `IllegalStateException` if the hand waits", HotPanLocksLocksTest::askWhileItWaits);
    }

    // ---- promise 3

    private static void whatReleaseChanges() {
        changes("a gets more", RICH, x -> x.release(2, 0),
                "lock a0 1>2; lock c0 2>0; queue 0 a2f3>f3; granted a 1>2; saved 2>3");
        changes("nobody waits, and the row stays warm", RICH, x -> x.release(4, 2), "lock e2 2>0; saved 2>3");
    }

    private static void releaseOfEdgeRows() {
        for (int row : new int[] {0, 11}) {
            for (int hand : new int[] {0, 7}) {
                HotPanLocks x = new HotPanLocks();
                x.ask(hand, row, 3);
                x.ask(hand, 5, 1);
                x.ask(3, row, 2);
                x.ask(4, row, 2);
                due("release", x.release(hand, row), 1);
                due("lock", x.lock(hand, row), 0);
                due("the other lock stays", x.lock(hand, 5), 1);
                due("holders", x.row(row, 2), 8);
                due("the next one waits on", x.row(row, 5), 4);
            }
        }
    }

    private static void releaseWhileItWaitsElsewhere() {
        HotPanLocks x = after("a0h,b1p,b2p,c1h,b0p");
        due("one for which it does not wait", x.release(1, 1), 1);
        due("it waits on", x.hand(1, 2), 0);
        due("its other lock stays", x.lock(1, 2), 1);
        due("c has it", x.lock(2, 1), 3);
        due("the second one too", x.release(1, 2), 0);
        due("it waits on", x.hand(1, 2), 0);
    }

    private static void releaseIsUndoable() {
        undoable("three are granted", () -> after("a0h,b0p,c0s,d0p,e0h"), x -> x.release(0, 0), 3);
        undoable("none is granted", RICH, x -> x.release(4, 2), 0);
    }

    private static void howManyAreGranted() {
        due("no request", after("a0h").release(0, 0), 0);
        due("one that still waits", after("a0p,b0p,c0h").release(0, 0), 0);
        due("one", after("a0h,b0h,c0h").release(0, 0), 1);
        due("all seven", after("a0h", "b0p,c0p,d0p,e0p,f0p,g0p,h0s").release(0, 0), 7);
        due("six, for the stir is in the way of the last", after("a0h", "b0p,c0p,d0p,e0p,f0p,g0s,h0s").release(0, 0), 6);
        due("a stronger lock counts as one", after("a0p,b0p,a0h,c0p").release(1, 0), 1);
        due("not those of other rows", after("a0h,b0p,a1h,c1p").release(0, 0), 1);
    }

    private static void releaseWithoutLock() {
        refused("nobody has one", RICH, STATE, x -> x.release(6, 11));
        refused("another hand has one", RICH, STATE, x -> x.release(2, 1));
        refused("it has one on another row", RICH, STATE, x -> x.release(1, 2));
        refused("released already", () -> after("a0p,a0-"), STATE, x -> x.release(0, 0));
    }

    private static void releaseWhileItWaitsForIt() {
        refused("without a lock", RICH, STATE, x -> x.release(3, 1));
        refused("with a lesser lock", RICH, STATE, x -> x.release(0, 0));
        refused("the first row", () -> after("a0p,h0p,h0h"), STATE, x -> x.release(7, 0));
        refused("the last row", () -> after("a11p,h11p,h11h"), STATE, x -> x.release(7, 11));
        HotPanLocks x = after("a0p,b0p,a0h");
        x.giveUp(0);
        due("it can, when it gave up", x.release(0, 0), 0);
    }

    private static void release() {
        section("Promise 3: release");
        namesNoEdge(ITS_NUMBER, NUMBER_OF_ROW);
        holds("A hand releases a row; the row is settled.", HotPanLocksLocksTest::whatReleaseChanges);
        holds("A hand releases a row; the row is settled.", HotPanLocksLocksTest::releaseOfEdgeRows);
        holds("(A hand that waits for another row can do so, too.)", HotPanLocksLocksTest::releaseWhileItWaitsElsewhere);
        holds("Undoable.", HotPanLocksLocksTest::releaseIsUndoable);
        holds("Returns how many requests are granted by it.", HotPanLocksLocksTest::howManyAreGranted);
        holds(NO_HAND_OR_ROW, () -> {
            refusedEach("hand", RICH, INDEX, NO_HANDS, (x, hand) -> x.release(hand, 0));
            refusedEach("row", RICH, INDEX, NO_ROWS, (x, row) -> x.release(1, row));
        });
        holds("Throws `IllegalStateException` if the hand has no lock on it", HotPanLocksLocksTest::releaseWithoutLock);
        holds("or waits for it", HotPanLocksLocksTest::releaseWhileItWaitsForIt);
    }

    // ---- promise 4

    private static void whatGiveUpChanges() {
        changes("the last one", RICH, x -> x.giveUp(5), "queue 0 a2f3>a2; saved 2>3");
        changes("the first one, which keeps its lesser lock", RICH, x -> x.giveUp(0), "queue 0 a2f3>f3; saved 2>3");
        changes("the one in the way", () -> after("a0p,b0h,c0p,d0s"), x -> x.giveUp(1),
                "lock c0 0>1; lock d0 0>2; queue 0 b3c1d2>; granted c 0>1; granted d 0>1; saved 1>2");
    }

    private static void requestIsGone() {
        String[] want = {"c1d2e3", "b3d2e3", "b3c1e3", "b3c1d2"};
        for (int place = 0; place < 4; place++) {
            HotPanLocks x = after("a7h,b7h,c7p,d7s,e7h");
            due("the row", x.giveUp(place + 1), 7);
            dueQueue(x, 7, want[place]);
            due("the row of its request", x.hand(place + 1, 2), NONE);
            due("the mode of its request", x.hand(place + 1, 3), 0);
            due("not granted for it", x.hand(place + 1, 7), 0);
            due("for nobody does it wait", x.hand(place + 1, 4), 0);
            due("nor over others", x.waitsFor(place + 1), 0);
            due("it can ask again, behind all", x.ask(place + 1, 7, 1), 1);
            due("the last place", x.request(7, 3, 0), place + 1);
        }
        HotPanLocks y = after("a0p,b0p,c1h,a0h");
        y.giveUp(0);
        due("a lesser lock stays", y.lock(0, 0), 1);
    }

    private static void rowIsSettledWhenGivenUp() {
        HotPanLocks x = after("a7p,b7h,c7p,d7s,e7p,f7h");
        due("the first one in the way gives up", x.giveUp(1), 7);
        due("all up to the next hold are granted", x.row(7, 2), 1 | 4 | 8 | 16);
        dueQueue(x, 7, "f3");
        due("the last one gives up", x.giveUp(5), 7);
        dueQueue(x, 7, "");
        HotPanLocks y = after("a7p,b7h,c7s,d7h");
        due("one in the middle", y.giveUp(2), 7);
        due("nobody is granted", y.row(7, 2), 1);
    }

    private static void giveUpIsUndoable() {
        undoable("others are granted", () -> after("a7p,b7h,c7p,d7s"), x -> x.giveUp(1), 7);
        undoable("nobody is", RICH, x -> x.giveUp(5), 0);
        undoable("with a lesser lock", RICH, x -> x.giveUp(0), 0);
    }

    private static void rowGivenUp() {
        for (int row = 0; row < 12; row++) {
            HotPanLocks x = new HotPanLocks();
            x.ask(0, row, 3);
            x.ask(7, row, 1);
            due("the row", x.giveUp(7), row);
        }
    }

    private static void doesNotWait() {
        refused("has nothing", RICH, STATE, x -> x.giveUp(6));
        refused("has a lock", RICH, STATE, x -> x.giveUp(1));
        refused("gave up already", () -> undoneWaiting(), STATE, x -> x.giveUp(1));
        refused("was granted", () -> after("a0h,b0p,a0-"), STATE, x -> x.giveUp(1));
        refused("lost", () -> after("a0h,b1h,a1p,b0p"), STATE, x -> x.giveUp(1));
    }

    private static HotPanLocks undoneWaiting() {
        HotPanLocks x = after("a0h,b0p");
        x.giveUp(1);
        return x;
    }

    private static void giveUp() {
        section("Promise 4: giveUp");
        namesNoEdge(ITS_NUMBER);
        holds("A hand gives up waiting: its request is gone", HotPanLocksLocksTest::whatGiveUpChanges);
        holds("A hand gives up waiting: its request is gone", HotPanLocksLocksTest::requestIsGone);
        holds("the row is settled.", HotPanLocksLocksTest::rowIsSettledWhenGivenUp);
        holds("Undoable.", HotPanLocksLocksTest::giveUpIsUndoable);
        holds("Returns the row for which it waited.", HotPanLocksLocksTest::rowGivenUp);
        holds("Throws `IndexOutOfBoundsException` if there is no such hand",
                () -> refusedEach("hand", RICH, INDEX, NO_HANDS, (x, hand) -> x.giveUp(hand)));
        holds("Throws `IllegalStateException` if it does not wait", HotPanLocksLocksTest::doesNotWait);
    }

    // ---- promise 5

    private static void whatHandOnChanges() {
        changes("to the one that waits", RICH, x -> x.handOn(1, 1, 3),
                "lock b1 3>0; lock d1 0>1; queue 1 d1>; handed on 1 0>1; granted d 0>1; saved 2>3");
        changes("out of turn", () -> after("a0h,b0s,c0h,d0p,e0h,f0p"), x -> x.handOn(0, 0, 3),
                "lock a0 3>0; lock b0 0>2; lock d0 0>1; queue 0 b2c3d1e3f1>c3e3f1; handed on 0 0>1; granted b 0>1;"
                + " granted d 0>1; saved 1>2");
    }

    private static void outOfTurn() {
        for (int other = 1; other <= 7; other++) {
            HotPanLocks x = after("a11h", "b11h,c11h,d11h,e11h,f11h,g11h,h11h");
            due("handOn", x.handOn(0, 11, other), 3);
            due("holders", x.row(11, 2), 1 << other);
            due("six are left", x.row(11, 3), 6);
            due("the first of them", x.row(11, 5), other == 1 ? 2 : 1);
            due("granted", x.hand(other, 7), 1);
            due("for nobody does it wait", x.hand(other, 4), 0);
            due("nor over others", x.waitsFor(other), 0);
            due("handed on", x.row(11, 4), 1);
        }
        HotPanLocks y = after("a0h,a1h,b0h,h1h,a2p,c2p,d2h");
        due("from the least to the greatest hand", y.handOn(0, 1, 7), 3);
        due("its other locks stay", y.hand(0, 0), 2);
        due("only this row was handed on", y.row(0, 4) + y.row(2, 4), 0);
        due("beside another peek", after("a2p,c2p,d2h,e2p").handOn(0, 2, 4), 1);
    }

    private static void ownLockIsGone() {
        HotPanLocks x = after("a0p,b0p,c0p,d0h,e0p");
        due("peek to peek", x.handOn(1, 0, 4), 1);
        due("b's lock", x.lock(1, 0), 0);
        due("holders", x.row(0, 2), 1 | 4 | 16);
        HotPanLocks y = after("a0s,b0s,a1p,a2h,c2p");
        y.handOn(0, 0, 1);
        due("the lock on the next row stays", y.lock(0, 1), 1);
        due("locks", y.hand(0, 0), 2);
    }

    private static void requestIsGrantedAndRowSettled() {
        HotPanLocks x = after("a0h,b0s,c0s,d0p,e0h,f0p");
        due("c stirs", x.handOn(0, 0, 2), 2);
        dueQueue(x, 0, "b2d1e3f1");
        due("the first clashes, and holds up the rest", x.row(0, 2), 4);
        HotPanLocks y = after("a0h,b0s,c0h,d0p,e0h,f0p");
        due("d peeks", y.handOn(0, 0, 3), 1);
        due("then b stirs beside it", y.row(0, 2), 2 | 8);
        dueQueue(y, 0, "c3e3f1");
        due("granted", y.count(6), 3);
        HotPanLocks z = after("a0p,b0p,b0h,c0p");
        due("in place of the lesser one", z.handOn(0, 0, 1), 3);
        due("lock", z.lock(1, 0), 3);
        due("b has one lock", z.hand(1, 0), 1);
        dueQueue(z, 0, "c1");
    }

    private static void handOnIsUndoable() {
        undoable("to the first", RICH, x -> x.handOn(1, 1, 3), 1);
        undoable("out of turn", () -> after("a0h,b0h,c0p,d0s,e0p"), x -> x.handOn(0, 0, 3), 2);
        undoable("twice", () -> {
            HotPanLocks x = after("a0h,b0h,c0p,d0s,e0p");
            x.handOn(0, 0, 3);
            return x;
        }, x -> x.handOn(3, 0, 1), 3);
    }

    private static void modeThatTheOtherHas() {
        for (int had = 1; had <= 3; had++) {
            for (int mode = 1; mode <= 3; mode++) {
                HotPanLocks x = new HotPanLocks();
                x.ask(0, 0, had);
                x.ask(1, 0, 3);
                if (x.ask(2, 0, mode) == 1) {
                    due("the other's mode, not the hand's", x.handOn(0, 0, 2), mode);
                }
            }
        }
        due("also if others are granted then", after("a0h,b0s,c0p,d0p").handOn(0, 0, 2), 1);
        due("peek", after("a0h,c0p,d0s").handOn(0, 0, 2), 1);
        due("stir", after("a0h,c0p,d0s").handOn(0, 0, 3), 2);
    }

    private static void handOnWithoutLock() {
        refused("it has none", RICH, STATE, x -> x.handOn(6, 0, 5));
        refused("it has one on another row", RICH, STATE, x -> x.handOn(4, 1, 3));
        refused("it waits for it without one", () -> after("a0h,b0h,c0h"), STATE, x -> x.handOn(1, 0, 2));
        refused("it has been burnt", () -> {
            HotPanLocks x = after("a0h,b0h,c0h");
            x.pass(21);
            return x;
        }, STATE, x -> x.handOn(0, 0, 2));
    }

    private static void handOnWhileItWaitsForIt() {
        refused("with a lesser lock", () -> after("a0p,b0p,b0h,c0p"), STATE, x -> x.handOn(1, 0, 2));
        due("the other holder can", after("a0p,b0p,b0h,c0p").handOn(0, 0, 2), 1);
        HotPanLocks x = after("a0p,b0p,b0h,c0p");
        x.giveUp(1);
        due("granted when b gave up", x.row(0, 2), 7);
        due("one that waits for another row can", after("a0h,b1h,a2p,c0h,a1p").handOn(0, 0, 2), 3);
    }

    private static void otherDoesNotWaitForIt() {
        refused("it has nothing", RICH, STATE, x -> x.handOn(1, 1, 6));
        refused("it waits for another row", RICH, STATE, x -> x.handOn(1, 1, 0));
        refused("it has a lock on it", RICH, STATE, x -> x.handOn(1, 0, 2));
        refused("it waits for row 0, not for 11", () -> after("a0h,a11h,b0p"), STATE, x -> x.handOn(0, 11, 1));
        refused("it gave up", () -> {
            HotPanLocks x = after("a0h,b0p");
            x.giveUp(1);
            return x;
        }, STATE, x -> x.handOn(0, 0, 1));
    }

    private static void otherIsTheSameOne() {
        refused("it holds", () -> after("a0h,b0p"), STATE, x -> x.handOn(0, 0, 0));
        refused("it waits for a stronger one", () -> after("a0p,b0p,a0h"), STATE, x -> x.handOn(0, 0, 0));
        refused("it waits for another row", () -> after("a0h,b1h,a1p"), STATE, x -> x.handOn(0, 0, 0));
    }

    private static void clashesWithAThirdOne() {
        for (int third = 1; third <= 2; third++) {
            for (int mode = 1; mode <= 3; mode++) {
                int had = third;
                int asked = mode;
                Start start = () -> {
                    HotPanLocks x = new HotPanLocks();
                    x.ask(0, 0, 1);
                    x.ask(7, 0, had);
                    x.ask(5, 0, 3);
                    x.ask(2, 0, asked);
                    return x;
                };
                if (third + mode > 3) {
                    refused(mode + " beside " + third, start, STATE, x -> x.handOn(0, 0, 2));
                } else {
                    due(mode + " beside " + third, start.made().handOn(0, 0, 2), mode);
                }
            }
        }
        due("its own lesser lock is not a third one's", after("a0p,b0p,b0h").handOn(0, 0, 1), 3);
        due("nor is the lock that is handed on", after("a0h,b0h").handOn(0, 0, 1), 3);
        due("nor is a lock on another row", after("a0h,b0h,c1h").handOn(0, 0, 1), 3);
        refused("a third one that waits for more", () -> after("a0p,b0s,a0s,c0h"), STATE, x -> x.handOn(1, 0, 2));
    }

    private static void handOn() {
        section("Promise 5: handOn");
        namesNoEdge(ITS_NUMBER, NUMBER_OF_ROW);
        holds("A hand hands a row on to another one that waits for it, out of turn", HotPanLocksLocksTest::outOfTurn);
        holds("A hand hands a row on to another one that waits for it, out of turn",
                HotPanLocksLocksTest::whatHandOnChanges);
        holds("its own lock is gone", HotPanLocksLocksTest::ownLockIsGone);
        holds("the request of the other one is granted, and then the row is settled",
                HotPanLocksLocksTest::requestIsGrantedAndRowSettled);
        holds("Undoable.", HotPanLocksLocksTest::handOnIsUndoable);
        holds("- `other`: the number of the other one",
                () -> refusedEach("other", RICH, INDEX, NO_HANDS, (x, other) -> x.handOn(1, 1, other)));
        holds("Returns the mode in which the other one has it then.", HotPanLocksLocksTest::modeThatTheOtherHas);
        holds(NO_HAND_OR_ROW, () -> {
            refusedEach("hand", RICH, INDEX, NO_HANDS, (x, hand) -> x.handOn(hand, 1, 3));
            refusedEach("row", RICH, INDEX, NO_ROWS, (x, row) -> x.handOn(1, row, 3));
        });
        holds("Throws `IllegalStateException` if the hand has no lock on it", HotPanLocksLocksTest::handOnWithoutLock);
        holds("or waits for it", HotPanLocksLocksTest::handOnWhileItWaitsForIt);
        holds("the other one does not wait for this row", HotPanLocksLocksTest::otherDoesNotWaitForIt);
        holds("(or is the same one)", HotPanLocksLocksTest::otherIsTheSameOne);
        holds("or the mode of its request clashes with a lock of a third one", HotPanLocksLocksTest::clashesWithAThirdOne);
    }

    // ---- promise 6

    private static void whatPassChanges() {
        changes("one tick", RICH, x -> x.pass(1), "heat 0 6>8; heat 1 9>12; heat 2 6>8; ticks 3>4; saved 2>3");
        changes("b is burnt, and d gets row 1", RICH, x -> x.pass(18),
                "lock b1 3>0; lock d1 0>1; heat 0 6>42; queue 1 d1>; heat 1 9>63; heat 2 6>42; burnt b 0>1;"
                + " granted d 0>1; ticks 3>21; saved 2>3");
        changes("nobody has a lock", HotPanLocks::new, x -> x.pass(100), "ticks 0>100; saved 0>1");
    }

    private static void passIsUndoableAsOneCall() {
        undoable("1 tick", RICH, x -> x.pass(1), 0);
        undoable("100 ticks", RICH, x -> x.pass(100), 8);
        undoable("nobody has a lock", HotPanLocks::new, x -> x.pass(100), 0);
    }

    private static void leastAndMostTicks() {
        HotPanLocks x = after("a0p");
        x.pass(1);
        due("ticks", x.count(2), 1);
        due("heat", x.row(0, 0), 1);
        x.set(0, 900);
        x.pass(100);
        due("ticks", x.count(2), 101);
        due("heat", x.row(0, 0), 101);
        due("the 100th tick counts", burntBy(100), 1);
        due("the 99th does not burn", burntBy(99), 0);
    }

    /** A peek with a heating of 1, where 99 is borne: it is burnt by the 100th tick. */
    private static int burntBy(int ticks) {
        HotPanLocks x = after("a0p");
        x.set(0, 99);
        return x.pass(ticks);
    }

    private static void locksGone() {
        due("none", after("a0h").pass(20), 0);
        due("one", after("a0h").pass(21), 1);
        due("two of one hand", after("a0h,a11h").pass(21), 2);
        due("eight of one row", after("a0p,b0p,c0p,d0p,e0p,f0p,g0p,h0p").pass(61), 8);
        due("one after the other, of the same row", after("a0h,b0h,c0h").pass(22), 2);
        due("a hand burnt twice on one row: its request stays", after("a0p,b0p,a0h").pass(100), 3);
        HotPanLocks x = after("a0h,b1p");
        x.pass(21);
        due("not those that were gone before", x.pass(40), 1);
    }

    private static void pass() {
        section("Promise 6: pass");
        holds("Lets ticks pass.", HotPanLocksLocksTest::whatPassChanges);
        holds("Undoable, as one call.", HotPanLocksLocksTest::passIsUndoableAsOneCall);
        holds("- `ticks`: 1 to 100", HotPanLocksLocksTest::leastAndMostTicks);
        holds("Returns how many locks are gone by burnt hands.", HotPanLocksLocksTest::locksGone);
        holds("Throws `IllegalArgumentException` if ticks is out of range", () -> {
            refusedEach("ticks", RICH, ARGUMENT, new int[] {0, 101, 102, 1000}, HotPanLocks::pass);
            refusedEach("ticks", RICH, ARGUMENT, WILD, HotPanLocks::pass);
        });
    }

    // ---- promise 7

    /** Each row was held for as many ticks as its number and one more, and then released. */
    private static HotPanLocks warm() {
        HotPanLocks x = new HotPanLocks();
        x.set(2, 0);
        for (int row = 11; row >= 0; row--) {
            x.ask(0, row, 3);
            x.pass(1);
        }
        for (int row = 0; row < 12; row++) {
            x.release(0, row);
        }
        return x;
    }

    private static void heatIsZero() {
        for (int row = 0; row < 12; row++) {
            HotPanLocks x = warm();
            due("cool", x.cool(row), 3 * (row + 1));
            for (int other = 0; other < 12; other++) {
                due("heat of row " + other, x.row(other, 0), other == row ? 0 : 3 * (other + 1));
            }
        }
    }

    private static void coolIsUndoable() {
        Start start = () -> {
            HotPanLocks x = after("a0h");
            x.pass(7);
            x.release(0, 0);
            return x;
        };
        undoable("a warm row", start, x -> x.cool(0), 21);
        undoable("a cold row", start, x -> x.cool(1), 0);
        changes("a warm row", start, x -> x.cool(0), "heat 0 21>0; saved 3>4");
        changes("a cold row", start, x -> x.cool(1), "saved 3>4");
    }

    private static void heatThatItHad() {
        HotPanLocks x = warm();
        due("some", x.cool(11), 36);
        due("none, once more", x.cool(11), 0);
        HotPanLocks y = new HotPanLocks();
        y.set(0, 900);
        y.set(1, 20);
        did(y, "a0h,b0h");
        y.pass(17);
        due("the most", y.cool(0), 1000);
        due("a row that was never warm", y.cool(1), 0);
    }

    private static void coolWithHolders() {
        refused("three", RICH, STATE, x -> x.cool(0));
        refused("one that holds", RICH, STATE, x -> x.cool(1));
        refused("a cold one", () -> after("h11p"), STATE, x -> x.cool(11));
        due("the row before it has none", after("h11p").cool(10), 0);
        due("none any more", after("h11p,h11-").cool(11), 0);
    }

    private static void cool() {
        section("Promise 7: cool");
        namesNoEdge("- `row`: its number");
        holds("Cools a row: its heat is 0.", HotPanLocksLocksTest::heatIsZero);
        holds("Undoable.", HotPanLocksLocksTest::coolIsUndoable);
        holds("Returns the heat that it had.", HotPanLocksLocksTest::heatThatItHad);
        holds("Throws `IndexOutOfBoundsException` if there is no such row",
                () -> refusedEach("row", RICH, INDEX, NO_ROWS, HotPanLocks::cool));
        holds("Throws `IllegalStateException` if it has holders", HotPanLocksLocksTest::coolWithHolders);
    }

    // ---- promise 8

    private static void whatSetChanges() {
        changes("less is borne, but nobody is burnt ahead of the next tick", () -> {
            HotPanLocks x = rich();
            x.pass(10);
            return x;
        }, x -> x.set(0, 10), "setting 0 60>10; saved 3>4");
        changes("the heating", RICH, x -> x.set(1, 20), "setting 1 1>20; saved 2>3");
        changes("the cooling", RICH, x -> x.set(2, 0), "setting 2 2>0; saved 2>3");
        changes("the same value", RICH, x -> x.set(2, 2), "saved 2>3");
    }

    private static void setIsUndoable() {
        undoable("another value", RICH, x -> x.set(0, 900), 60);
        undoable("the same value", RICH, x -> x.set(1, 1), 1);
    }

    private static void eachSetting() {
        HotPanLocks x = new HotPanLocks();
        due("the first", x.set(0, 50), 60);
        due("the second", x.set(1, 19), 1);
        due("the last", x.set(2, 49), 2);
        due("the first", x.setting(0), 50);
        due("the second", x.setting(1), 19);
        due("the last", x.setting(2), 49);
    }

    private static void previousValue() {
        HotPanLocks x = new HotPanLocks();
        due("from the first", x.set(0, 10), 60);
        due("from the least", x.set(0, 900), 10);
        due("from the greatest", x.set(0, 900), 900);
        due("from the same", x.set(0, 11), 900);
        x.undo();
        due("from what undo restored", x.set(0, 12), 900);
        due("from 0", x.set(1, 0) - x.set(1, 20), 1);
    }

    private static void valueOutOfRange() {
        int[] least = {10, 0, 0};
        int[] greatest = {900, 20, 50};
        for (int setting = 0; setting < 3; setting++) {
            int which = setting;
            int[] bad = {least[setting] - 1, greatest[setting] + 1, -100, 1001, Integer.MIN_VALUE, Integer.MAX_VALUE};
            refusedEach("setting " + setting + ", value", RICH, ARGUMENT, bad, (x, value) -> x.set(which, value));
            due("the least is in range", rich().set(setting, least[setting]), rich().setting(setting));
            due("the greatest is in range", rich().set(setting, greatest[setting]), rich().setting(setting));
        }
        refused("21 would do for another setting", RICH, ARGUMENT, x -> x.set(1, 21));
        refused("51 would do for another setting", RICH, ARGUMENT, x -> x.set(2, 51));
        refused("9 would do for another setting", RICH, ARGUMENT, x -> x.set(0, 9));
    }

    private static void set() {
        section("Promise 8: set");
        namesNoEdge("- `value`: the new value");
        holds("Changes a setting.", HotPanLocksLocksTest::whatSetChanges);
        holds("Undoable.", HotPanLocksLocksTest::setIsUndoable);
        holds("- `setting`: 0 to 2", HotPanLocksLocksTest::eachSetting);
        holds("Returns the previous value.", HotPanLocksLocksTest::previousValue);
        holds("Throws `IndexOutOfBoundsException` if there is no such setting", () -> {
            refusedEach("setting", RICH, INDEX, new int[] {3, 4, 10}, (x, setting) -> x.set(setting, 10));
            refusedEach("setting", RICH, INDEX, WILD, (x, setting) -> x.set(setting, 10));
        });
        holds("Throws `IllegalArgumentException` if value is out of range", HotPanLocksLocksTest::valueOutOfRange);
    }

    public static void main(String[] args) {
        aNewObject();
        ask();
        release();
        giveUp();
        handOn();
        pass();
        cool();
        set();
        end("Promise 1: A new object", "Promise 8: set");
    }
}
