/** Each sentence of promises 9 to 13 that names an edge, and a test that holds it. */
public final class HotPanLocksTextsTest extends Sentences {
    private static final Start RICH = Sentences::rich;
    private static final int[] NO_CODES = {32, 127, 0, 10, 128, 161, 256 + 97, 65536 + 97, -97, Integer.MAX_VALUE,
        Integer.MIN_VALUE, Integer.MIN_VALUE + 97};

    // ---- promise 9

    private static void textsChangeNothingElse() {
        changes("append", RICH, x -> x.append('4'), "");
        changes("append of an error", RICH, x -> x.append('~'), "");
        changes("clearBuffer", RICH, HotPanLocks::clearBuffer, "");
        changes("firstError", RICH, HotPanLocks::firstError, "");
    }

    private static void eachCode() {
        HotPanLocks x = new HotPanLocks();
        for (int code = 33; code <= 92; code++) {
            due("code " + code, x.append(code), code - 32);
        }
        due("cleared", x.clearBuffer(), 60);
        for (int code = 93; code <= 126; code++) {
            due("code " + code, x.append(code), code - 92);
        }
        due("another code is another buffer", typed("!").digest() - typed("~").digest(), 33 - 126);
    }

    private static void newLength() {
        HotPanLocks x = new HotPanLocks();
        due("the first", x.append('a'), 1);
        due("the second", x.append('0'), 2);
        x.clearBuffer();
        due("the first again", x.append('b'), 1);
        due("run clears", did(new HotPanLocks(), "a0p").append('c'), 1);
        HotPanLocks y = typed("a".repeat(59));
        due("the last", y.append('a'), 60);
        due("length", y.clearBuffer(), 60);
    }

    private static void appendToFullBuffer() {
        refused("61 of them", () -> typed("a".repeat(60)), STATE, x -> x.append('a'));
        refused("the least code", () -> typed("~".repeat(60)), STATE, x -> x.append(33));
        refused("the greatest code", () -> typed("~".repeat(60)), STATE, x -> x.append(126));
        due("59 are not full", typed("a".repeat(59)).append(126), 60);
        HotPanLocks x = typed("a".repeat(60));
        x.clearBuffer();
        due("it is not full when it has been cleared", x.append('a'), 1);
    }

    private static void append() {
        section("Promise 9: append");
        holds("Appends a character to the buffer.", HotPanLocksTextsTest::textsChangeNothingElse);
        holds("- `code`: the character code, 33 to 126", HotPanLocksTextsTest::eachCode);
        holds("Returns the new length of the buffer.", HotPanLocksTextsTest::newLength);
        holds("Throws `IllegalArgumentException` if code is not 33 to 126", () -> {
            refusedEach("code", RICH, ARGUMENT, NO_CODES, HotPanLocks::append);
            refusedEach("code", () -> typed("a".repeat(60)), ARGUMENT, NO_CODES, HotPanLocks::append);
        });
        holds("Throws `IllegalStateException` if the buffer has 60 characters", HotPanLocksTextsTest::appendToFullBuffer);
    }

    // ---- promise 10

    private static void bufferIsCleared() {
        HotPanLocks x = typed("x0p");
        x.clearBuffer();
        due("empty", x.clearBuffer(), 0);
        due("no error", x.firstError(), 0);
        due("nothing of it is left behind", type(x, "a0p").firstError(), 3);
        HotPanLocks y = typed("a0p,b0p");
        y.clearBuffer();
        due("a shorter one is not lengthened", type(y, "c0p").run(), 1);
        refused("run of what is cleared", () -> {
            HotPanLocks z = typed("a0p");
            z.clearBuffer();
            return z;
        }, ARGUMENT, HotPanLocks::run);
    }

    private static void lengthThatItHad() {
        due("empty", new HotPanLocks().clearBuffer(), 0);
        due("one", typed("a").clearBuffer(), 1);
        due("full", typed("a".repeat(60)).clearBuffer(), 60);
        HotPanLocks x = typed("a".repeat(60));
        x.clearBuffer();
        due("cleared already", x.clearBuffer(), 0);
        due("carried out already", did(new HotPanLocks(), "a0p").clearBuffer(), 0);
        HotPanLocks y = after("a0p");
        type(y, "b").clearBuffer();
        due("no state is saved by it", y.count(9), 1);
        due("no lock is gone by it", y.lock(0, 0), 1);
    }

    private static void clearBuffer() {
        section("Promise 10: clearBuffer");
        holds("`int clearBuffer()`: Clears the buffer.", HotPanLocksTextsTest::bufferIsCleared);
        holds("Returns the length that it had.", HotPanLocksTextsTest::lengthThatItHad);
    }

    // ---- promise 11

    private static void findingChangesNothing() {
        told("a buffer that breaks off", RICH, HotPanLocks::firstError, 5);
        told("an error", () -> typed("a0p,x"), HotPanLocks::firstError, 4);
        told("a complete row", () -> typed("a0p"), HotPanLocks::firstError, 3);
    }

    private static void indexOfFirstError() {
        String fine = "a10p,b1s,c2h,d3p,e4p,f5s,g6h,h7p,a8p,b9s,c0h,d0-,e11s,f2p,g3h".substring(0, 60);
        due("fine", typed(fine).firstError(), 60);
        for (int place = 0; place < 60; place++) {
            String bad = fine.substring(0, place) + "x" + fine.substring(place + 1);
            due("an error at " + place, typed(bad).firstError(), place);
            due("an error at " + place + ", the last character", typed(bad.substring(0, place + 1)).firstError(), place);
        }
        due("two errors", typed("a0x,x").firstError(), 2);
        due("an error that hides a row of requests", typed("xa0p,b1s").firstError(), 0);
    }

    private static void noErrorButLength() {
        due("empty", new HotPanLocks().firstError(), 0);
        String fine = "a10p,b1s,c2h,d3p,e4p,f5s,g6h,h7p,a8p,b9s,c0h,d0-,e11s,f2p,g3";
        for (int length = 1; length <= 60; length++) {
            due("a row cut at " + length, typed(fine.substring(0, length)).firstError(), length);
        }
    }

    private static void firstError() {
        section("Promise 11: firstError");
        holds("`int firstError()`: Finds the first syntax error of the buffer.", HotPanLocksTextsTest::findingChangesNothing);
        holds("Returns the index of the first character that is a syntax error", HotPanLocksTextsTest::indexOfFirstError);
        holds("the length of the buffer if there is none", HotPanLocksTextsTest::noErrorButLength);
    }

    // ---- promise 12

    private static void whatRunChanges() {
        Start start = () -> type(after("a0h,b0p"), "c1s,d1p,d1-,b1p,e1p");
        changes("up to b, which waits", start, HotPanLocks::run,
                "lock c1 0>2; granted c 0>1; asked c 0>1; granted d 0>1; asked d 0>1; saved 1>2");
        changes("none", () -> type(after("a0h,b0p"), "b1p"), HotPanLocks::run, "saved 1>2");
    }

    private static void oneAfterTheOther() {
        HotPanLocks x = typed("a0h,b0h,a0-,b0-,c0p");
        due("run", x.run(), 5);
        due("holders", x.row(0, 2), 4);
        due("granted", x.count(6), 3);
        HotPanLocks y = typed("b0p,b0-,b0h,a0s");
        due("the last one waits", y.run(), 4);
        due("lock", y.lock(1, 0), 3);
        due("request", y.hand(0, 3), 2);
        HotPanLocks z = typed("a0h,b1h,a1h,b0h,b2p");
        due("one that lost can go on", z.run(), 5);
        due("lost", z.hand(1, 6), 1);
    }

    private static void upToTheFirstThatThrows() {
        due("a hand that waits asks", type(after("a0h"), "b0p,c1p,b1p,d1p").run(), 2);
        due("without a lock it releases", type(after("a0h"), "a0-,a0-,d1p").run(), 1);
        due("a row for which it waits", type(after("a0h"), "b0p,b0-,d1p").run(), 1);
        due("with a lesser lock", type(after("a0p,b0p"), "b0h,b0-,d1p").run(), 1);
        due("the first", type(after("a0h,b0p"), "b1p,d1p").run(), 0);
        due("the last", type(after("a0h"), "b0p,d1p,b1p").run(), 2);
        HotPanLocks x = type(after("a0h"), "b0p,c1p,b1p,d1p");
        x.run();
        due("carried out ahead of it", x.lock(2, 1), 1);
        due("not carried out behind it", x.lock(3, 1), 0);
        due("b asked once", x.hand(1, 8), 1);
        due("b waits as before", x.hand(1, 3), 1);
        due("one that waits for another row releases", type(after("a0h"), "b1p,b0p,b1-,d1h").run(), 4);
    }

    private static void runClears() {
        for (String text : new String[] {"b1p", "a5p", "a5p,b1p,a6p"}) {
            HotPanLocks x = after("a0h,b0p");
            type(x, text).run();
            due("length after " + text, x.clearBuffer(), 0);
        }
    }

    private static void runIsUndoableAsOneCall() {
        for (String text : new String[] {"c1p", "b1p", "c1p,b0h", "c1p,c2s,c3h,c1-,d0s,e0p,a0-"}) {
            HotPanLocks x = after("a0h,b0p");
            type(x, text).run();
            due("saved by " + text, x.count(9), 2);
            due("left", x.undo(), 1);
            dueText("all that can be told after " + text + " and undo", whole(x), whole(after("a0h,b0p")));
        }
    }

    private static void savedAlsoIfNoneIsCarriedOut() {
        HotPanLocks x = type(after("a0h,b0p"), "b1p");
        due("none", x.run(), 0);
        due("saved", x.count(9), 2);
        HotPanLocks y = after("a0h,b0p", "c0p", "d0p", "e0p", "f0p", "g0p");
        type(y, "b1p").run();
        due("six at most", y.count(9), 6);
        for (int time = 0; time < 6; time++) {
            y.undo();
        }
        due("the oldest one was dropped for it", y.count(7), 2);
    }

    private static void howManyAreCarriedOut() {
        due("none", type(after("a0h,b0p"), "b1p,a1p").run(), 0);
        due("one", typed("a0p").run(), 1);
        due("fifteen", typed("a0p,b0p,c0p,d0p,e0p,f0p,g0p,h0p,a1p,b1p,c1p,d1p,e1p,f1p,g11p").run(), 15);
        due("all but the last of fifteen", typed("a0p,b0p,c0p,d0p,e0p,f0p,g0p,h0p,a1p,b1p,c1p,d1p,e1p,f1p,g11-").run(), 14);
        due("nothing to be done counts", typed("a0h,a0p,a0s,a0h").run(), 4);
        due("one that loses counts", typed("a0h,b1h,a1h,b0h").run(), 4);
    }

    private static void notACompleteRow() {
        for (String bad : new String[] {"", "a", "a0", "a1", "a10", "a0p,", "a0p,b", "a0p,b1", "x", "a0px", "a0p,b12p",
            "a0p,,b0p", "A0p", "a00p", ",", "a0p,b0p,", "-", "a-", "ap"}) {
            refused("run of " + bad, () -> type(after("h9p"), bad), ARGUMENT, HotPanLocks::run);
        }
        for (int length = 1; length <= 5; length++) {
            for (String sign : new String[] {"x", ",", "-", "0", "p", "a"}) {
                String wrong = sign.repeat(length);
                refused("run behind " + wrong, () -> typed(wrong + "a0p"), ARGUMENT, HotPanLocks::run);
                refused("run before " + wrong, () -> typed("a0p" + wrong), ARGUMENT, HotPanLocks::run);
                refused("run around " + wrong, () -> typed("a0p" + wrong + ",b0p"), ARGUMENT, HotPanLocks::run);
            }
        }
        String[] full = {"a0p,".repeat(15), "a10p,".repeat(12), "a".repeat(60), "a0p,".repeat(14) + "a10,",
            "a0p,".repeat(14) + "a0p-"};
        for (String bad : full) {
            refused("run of a full " + bad, () -> typed(bad), ARGUMENT, HotPanLocks::run);
        }
        due("complete, and full", typed("a0p,".repeat(14) + "a11p").run(), 15);
    }

    private static void run() {
        section("Promise 12: run");
        holds("Carries out the requests in the buffer, one after the other", HotPanLocksTextsTest::oneAfterTheOther);
        holds("Carries out the requests in the buffer, one after the other", HotPanLocksTextsTest::whatRunChanges);
        holds("up to the first one whose method would throw an exception", HotPanLocksTextsTest::upToTheFirstThatThrows);
        holds("and clears the buffer", HotPanLocksTextsTest::runClears);
        holds("Undoable, as one call", HotPanLocksTextsTest::runIsUndoableAsOneCall);
        holds("also if no request is carried out", HotPanLocksTextsTest::savedAlsoIfNoneIsCarriedOut);
        holds("Returns how many requests are carried out.", HotPanLocksTextsTest::howManyAreCarriedOut);
        holds("Throws `IllegalArgumentException` if the buffer is not a complete row of requests",
                HotPanLocksTextsTest::notACompleteRow);
    }

    // ---- promise 13

    private static void whatUndoChanges() {
        changes("the ticks", RICH, HotPanLocks::undo, "heat 0 6>0; heat 1 9>0; heat 2 6>0; ticks 3>0; saved 2>1");
        changes("a ring", () -> {
            HotPanLocks x = after("a0h,b1h,a1p");
            x.ask(1, 0, 1);
            return x;
        }, HotPanLocks::undo,
                "lock a1 1>0; lock b1 0>3; queue 1 >a1; granted a 2>1; lost b 1>0; asked b 2>1; saved 2>1");
    }

    private static void latestIsRestoredAndDropped() {
        HotPanLocks x = new HotPanLocks();
        long[] digests = new long[9];
        for (int row = 0; row < 9; row++) {
            digests[row] = x.digest();
            x.ask(row % 8, row, 3);
        }
        for (int row = 8; row >= 3; row--) {
            x.undo();
            due("locks", x.count(0), row);
            due("the row asked for last is free", x.row(row, 2), 0);
            due("the one before it is not", x.row(row - 1, 2), 1 << (row - 1));
        }
        HotPanLocks y = new HotPanLocks();
        for (int row = 0; row < 5; row++) {
            y.ask(row, row, 3);
        }
        for (int row = 4; row >= 0; row--) {
            y.undo();
            due("all is as before row " + row, y.digest(), digests[row]);
        }
        due("after undo another deed can be undone", y.ask(0, 11, 3) + y.undo(), 0);
        due("the row is free again", y.row(11, 2), 0);
    }

    private static void restoredIsNotTouchedLater() {
        HotPanLocks x = after("a0p,b0p");
        x.set(0, 10);
        x.undo();
        x.pass(50);
        due("the first state is saved as it was", x.undo(), 1);
        due("heat", x.row(0, 0), 0);
        due("ticks", x.count(2), 0);
        x.undo();
        due("and the one before it", x.count(0), 0);
    }

    private static void howManyAreLeft() {
        HotPanLocks x = new HotPanLocks();
        for (int time = 0; time < 9; time++) {
            x.cool(0);
        }
        for (int left = 5; left >= 0; left--) {
            due("left", x.undo(), left);
            due("saved states", x.count(9), left);
        }
        x.cool(0);
        due("one was saved since", x.undo(), 0);
    }

    private static void noneIsLeft() {
        refused("a new object", HotPanLocks::new, STATE, HotPanLocks::undo);
        refused("a buffer alone", () -> typed("a0p"), STATE, HotPanLocks::undo);
        refused("a refused deed alone", () -> {
            HotPanLocks x = new HotPanLocks();
            try {
                x.release(0, 0);
            } catch (IllegalStateException e) {
                return x;
            }
            return null;
        }, STATE, HotPanLocks::undo);
        refused("one deed, undone", () -> {
            HotPanLocks x = after("a0p");
            x.undo();
            return x;
        }, STATE, HotPanLocks::undo);
        refused("eight deeds, six undone", () -> {
            HotPanLocks x = new HotPanLocks();
            for (int row = 0; row < 8; row++) {
                x.ask(0, row, 1);
            }
            for (int time = 0; time < 6; time++) {
                x.undo();
            }
            return x;
        }, STATE, HotPanLocks::undo);
    }

    private static void undo() {
        section("Promise 13: undo");
        holds("Restores the latest saved state, and drops it.", HotPanLocksTextsTest::latestIsRestoredAndDropped);
        holds("Restores the latest saved state, and drops it.", HotPanLocksTextsTest::restoredIsNotTouchedLater);
        holds("Restores the latest saved state, and drops it.", HotPanLocksTextsTest::whatUndoChanges);
        holds("Returns how many saved states are left.", HotPanLocksTextsTest::howManyAreLeft);
        holds("Throws `IllegalStateException` if there is none", HotPanLocksTextsTest::noneIsLeft);
    }

    public static void main(String[] args) {
        append();
        clearBuffer();
        firstError();
        run();
        undo();
        end("Promise 9: append", "Promise 13: undo");
    }
}
