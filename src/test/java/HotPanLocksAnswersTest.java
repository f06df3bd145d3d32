import java.math.BigInteger;
import java.util.ArrayList;
import java.util.List;

/** Each sentence of promises 14 to 26 that names an edge, and a test that holds it. */
public final class HotPanLocksAnswersTest extends Sentences {
    private static final String NO_HAND = "Throws `IndexOutOfBoundsException` if there is no such hand";
    private static final String NO_ROW = "Throws `IndexOutOfBoundsException` if there is no such row";
    private static final Start RICH = Sentences::rich;

    // ---- promise 14

    private static void modeOrZero() {
        HotPanLocks x = after("a0p,a11s,h0s,h11p,d5h,e5p,b0h");
        due("peek", x.lock(0, 0), 1);
        due("stir", x.lock(0, 11), 2);
        due("the last hand, the first row", x.lock(7, 0), 2);
        due("the last hand, the last row", x.lock(7, 11), 1);
        due("hold", x.lock(3, 5), 3);
        due("a request is no lock", x.lock(4, 5), 0);
        due("a request of a greater mode", x.lock(1, 0), 0);
        due("no lock on this row", x.lock(3, 4), 0);
        due("nor on the next", x.lock(3, 6), 0);
        x.release(3, 5);
        due("released", x.lock(3, 5), 0);
        due("granted", x.lock(4, 5), 1);
        told("locks on the first row", RICH, y -> y.lock(0, 0) * 100 + y.lock(2, 0) * 10 + y.lock(5, 0), 120);
    }

    private static void lock() {
        section("Promise 14: lock");
        namesNoEdge("Returns the mode of a lock.", "- `hand`: the number of a hand", "- `row`: the number of a row");
        holds("Returns the mode; 0 if the hand has no lock on this row.", HotPanLocksAnswersTest::modeOrZero);
        holds("Throws `IndexOutOfBoundsException` if there is no such hand or row", () -> {
            refusedEach("hand", RICH, INDEX, NO_HANDS, (x, hand) -> x.lock(hand, 0));
            refusedEach("row", RICH, INDEX, NO_ROWS, (x, row) -> x.lock(0, row));
        });
    }

    // ---- promise 15

    private static void locksOfAHand() {
        HotPanLocks x = new HotPanLocks();
        due("none", x.hand(7, 0), 0);
        for (int row = 0; row < 12; row++) {
            x.ask(7, row, row % 3 + 1);
            due("locks, whatever their modes", x.hand(7, 0), row + 1);
        }
        due("of another hand", x.hand(6, 0), 0);
        due("a request is none", after("a0h,b1p,b0p").hand(1, 0), 1);
    }

    private static void workOfAHand() {
        due("none", new HotPanLocks().hand(0, 1), 0);
        due("1 and 2 and 3", after("a0p,a1s,a2h").hand(0, 1), 6);
        HotPanLocks x = after("a0h,b1s,b0h");
        due("a request is none", x.hand(1, 1), 2);
        x.release(1, 1);
        due("released", x.hand(1, 1), 0);
    }

    private static void rowForWhichItWaits() {
        for (int row = 0; row < 12; row++) {
            HotPanLocks x = new HotPanLocks();
            due("it does not wait", x.hand(7, 2), NONE);
            x.ask(0, row, 3);
            x.ask(7, row, 1);
            due("it waits", x.hand(7, 2), row);
            due("it has it, and does not wait", x.hand(0, 2), NONE);
            x.release(0, row);
            due("granted", x.hand(7, 2), NONE);
        }
    }

    private static void modeOfItsRequest() {
        for (int mode = 1; mode <= 3; mode++) {
            HotPanLocks x = after("a0h");
            due("it does not wait", x.hand(7, 3), 0);
            x.ask(7, 0, mode);
            due("it waits", x.hand(7, 3), mode);
            x.giveUp(7);
            due("gave up", x.hand(7, 3), 0);
            due("it has it, and does not wait", x.hand(0, 3), 0);
        }
    }

    private static void handsForWhichItWaits() {
        HotPanLocks x = after("a0h", "b0h,c0h,d0h,e0h,f0h,g0h,h0h");
        for (int hand = 0; hand < 8; hand++) {
            due("all ahead of hand " + hand, x.hand(hand, 4), (1 << hand) - 1);
        }
        HotPanLocks y = after("a0h,b1h,c2h,b0p,c1p,d2p");
        due("but not over others", y.hand(3, 4), 4);
        due("nobody", y.hand(0, 4), 0);
        due("the greatest bit", after("h0h,a0p").hand(0, 4), 128);
    }

    private static void howOftenBurnt() {
        HotPanLocks x = after("a0h,a11h,b5p,c0p");
        due("not yet", x.hand(0, 5), 0);
        x.pass(20);
        due("not at what is borne", x.hand(0, 5), 0);
        x.pass(1);
        due("two locks", x.hand(0, 5), 2);
        due("one that waited is not burnt", x.hand(2, 5), 0);
        x.pass(1);
        due("but then", x.hand(2, 5), 1);
        due("a's stay counted", x.hand(0, 5), 2);
        due("b's heat is borne", x.hand(1, 5), 0);
    }

    private static void howOftenLost() {
        HotPanLocks x = after("a0h,b1h,a1p");
        due("not yet", x.hand(1, 6), 0);
        x.ask(1, 0, 1);
        due("once", x.hand(1, 6), 1);
        due("a did not", x.hand(0, 6), 0);
        did(x, "b2p,b3p,a2h");
        due("it loses again", x.ask(1, 0, 3), 2);
        due("twice, whatever it had", x.hand(1, 6), 2);
        due("a still did not", x.hand(0, 6), 0);
        HotPanLocks y = after("a0h,b1h,b2p,b3p,a1p");
        y.ask(1, 0, 1);
        due("once, with one lock and a request gone", y.hand(0, 6), 1);
    }

    private static void howOftenGranted() {
        HotPanLocks x = after("a0p,a0p,b0p,a0h");
        due("a lock, and nothing to be done", x.hand(0, 7), 2);
        x.release(1, 0);
        due("a stronger one", x.hand(0, 7), 3);
        x.release(0, 0);
        due("a release takes nothing away", x.hand(0, 7), 3);
        HotPanLocks y = after("a0h,b0h,c0p");
        y.handOn(0, 0, 2);
        due("handed on", y.hand(2, 7), 1);
        due("not the one that waits", y.hand(1, 7), 0);
    }

    private static void howOftenAsked() {
        HotPanLocks x = after("a0h,b0p,a0p");
        due("granted, and nothing to be done", x.hand(0, 8), 2);
        due("waits", x.hand(1, 8), 1);
        due("never", x.hand(7, 8), 0);
        HotPanLocks y = after("a0h,b1h,a1p");
        y.ask(1, 0, 1);
        due("lost", y.hand(1, 8), 2);
        y.ifAsked(1, 5, 1, 0);
        due("ifAsked is no asking", y.hand(1, 8), 2);
        HotPanLocks z = type(after("a0h,b0p"), "c0p,b1p");
        z.run();
        due("refused", z.hand(1, 8), 1);
        due("carried out", z.hand(2, 8), 1);
    }

    private static void askedMoreOftenThanAByteCounts() {
        HotPanLocks x = new HotPanLocks();
        for (int time = 1; time <= 500; time++) {
            x.ask(7, 11, 3);
        }
        due("asked", x.hand(7, 8), 500);
        due("granted", x.hand(7, 7), 500);
        due("asked in all", x.count(7), 500);
        due("granted in all", x.count(6), 500);
    }

    /** Twelve locks of hand 7 are burnt by each tick; each time 13 calls. */
    private static void burntMoreOftenThanAByteCounts() {
        HotPanLocks x = new HotPanLocks();
        x.set(0, 10);
        x.set(1, 20);
        for (int time = 1; time <= 38; time++) {
            for (int row = 0; row < 12; row++) {
                x.ask(7, row, 3);
            }
            due("burnt by one tick", x.pass(1), 12);
        }
        due("burnt", x.hand(7, 5), 456);
        due("burnt in all", x.count(3), 456);
        due("locks", x.count(0), 0);
    }

    private static void hand() {
        section("Promise 15: hand");
        namesNoEdge("Returns a property of a hand.", "- `hand`: its number", "Returns the property.");
        holds("- `what`: 0: locks", HotPanLocksAnswersTest::locksOfAHand);
        holds("1: work", HotPanLocksAnswersTest::workOfAHand);
        holds("2: the row for which it waits, NONE if it does not wait", HotPanLocksAnswersTest::rowForWhichItWaits);
        holds("3: the mode of its request, 0 likewise", HotPanLocksAnswersTest::modeOfItsRequest);
        holds("4: the hands for which it waits, as a bit mask", HotPanLocksAnswersTest::handsForWhichItWaits);
        holds("5: how often it was burnt so far (each lock counts)", HotPanLocksAnswersTest::howOftenBurnt);
        holds("6: how often it lost so far", HotPanLocksAnswersTest::howOftenLost);
        holds("7: how often it was granted so far", HotPanLocksAnswersTest::howOftenGranted);
        holds("8: how often it asked so far", HotPanLocksAnswersTest::howOftenAsked);
        holds("7: how often it was granted so far", HotPanLocksAnswersTest::askedMoreOftenThanAByteCounts);
        holds("5: how often it was burnt so far (each lock counts)",
                HotPanLocksAnswersTest::burntMoreOftenThanAByteCounts);
        holds(NO_HAND, () -> {
            refusedEach("hand", RICH, INDEX, NO_HANDS, (x, hand) -> x.hand(hand, 0));
            refusedEach("hand", RICH, INDEX, NO_HANDS, (x, hand) -> x.hand(hand, 8));
        });
        holds("Throws `IllegalArgumentException` if what is not 0 to 8", () -> {
            refusedEach("what", RICH, ARGUMENT, new int[] {9, 10, 16}, (x, what) -> x.hand(0, what));
            refusedEach("what", RICH, ARGUMENT, WILD, (x, what) -> x.hand(7, what));
        });
    }

    // ---- promise 16

    private static void heatOfARow() {
        HotPanLocks x = after("a0p,b11h");
        due("cold", x.row(0, 0), 0);
        x.pass(3);
        due("the first", x.row(0, 0), 3);
        due("the last", x.row(11, 0), 9);
        due("between", x.row(5, 0), 0);
    }

    private static void greatestModeOfARow() {
        HotPanLocks x = after("a0p,b0s,c0p,d1h,e1p,a11p,b11p");
        due("stir among peeks", x.row(0, 1), 2);
        due("hold", x.row(1, 1), 3);
        due("peeks", x.row(11, 1), 1);
        due("no lock", x.row(2, 1), 0);
        x.ask(5, 0, 3);
        due("a request is no lock", x.row(0, 1), 2);
        x.release(1, 0);
        due("peeks are left", x.row(0, 1), 1);
    }

    private static void holdersOfARow() {
        HotPanLocks x = after("a0p,h0p,h11h,d11p");
        due("the first and the last hand", x.row(0, 2), 129);
        due("one that waits is none", x.row(11, 2), 128);
        due("nobody", x.row(5, 2), 0);
    }

    private static void requestsOfARow() {
        HotPanLocks x = after("a0h,b0p,c0p,a1h,d1p");
        due("two", x.row(0, 3), 2);
        due("one", x.row(1, 3), 1);
        due("none", x.row(2, 3), 0);
        due("seven", after("h11h", "a11p,b11p,c11p,d11p,e11p,f11p,g11p").row(11, 3), 7);
        x.giveUp(1);
        due("one is left", x.row(0, 3), 1);
    }

    private static void howOftenHandedOn() {
        HotPanLocks x = after("a11h,b11h,c11h,d5h,e5p");
        due("not yet", x.row(11, 4), 0);
        x.handOn(0, 11, 2);
        x.handOn(2, 11, 1);
        due("twice", x.row(11, 4), 2);
        due("not the other row", x.row(5, 4), 0);
        x.release(3, 5);
        due("a release is no handing on", x.row(5, 4), 0);
        x.release(1, 11);
        due("it stays counted", x.row(11, 4), 2);
    }

    private static void handedOnMoreOftenThanAByteCounts() {
        HotPanLocks x = new HotPanLocks();
        x.ask(0, 11, 3);
        for (int time = 0; time < 250; time++) {
            x.ask((time + 1) % 8, 11, 3);
            x.handOn(time % 8, 11, (time + 1) % 8);
        }
        due("handed on", x.row(11, 4), 250);
        due("handed on in all", x.count(5), 250);
    }

    private static void handOfTheFirstRequest() {
        HotPanLocks x = after("h0h,g0p,a0p");
        due("in turn, not by number", x.row(0, 5), 6);
        x.giveUp(6);
        due("hand 0", x.row(0, 5), 0);
        x.giveUp(0);
        due("none any more", x.row(0, 5), NONE);
        due("never one", x.row(11, 5), NONE);
        due("the last hand", after("a11h,h11p").row(11, 5), 7);
    }

    private static void row() {
        section("Promise 16: row");
        namesNoEdge("Returns a property of a row.", "- `row`: its number", "Returns the property.");
        holds("- `what`: 0: heat", HotPanLocksAnswersTest::heatOfARow);
        holds("1: the greatest mode of the locks on it, 0 without one", HotPanLocksAnswersTest::greatestModeOfARow);
        holds("2: its holders, as a bit mask", HotPanLocksAnswersTest::holdersOfARow);
        holds("3: requests in its queue", HotPanLocksAnswersTest::requestsOfARow);
        holds("4: how often it was handed on so far", HotPanLocksAnswersTest::howOftenHandedOn);
        holds("4: how often it was handed on so far", HotPanLocksAnswersTest::handedOnMoreOftenThanAByteCounts);
        holds("5: the hand of the first request, NONE without one", HotPanLocksAnswersTest::handOfTheFirstRequest);
        holds(NO_ROW, () -> {
            refusedEach("row", RICH, INDEX, NO_ROWS, (x, row) -> x.row(row, 0));
            refusedEach("row", RICH, INDEX, NO_ROWS, (x, row) -> x.row(row, 5));
        });
        holds("Throws `IllegalArgumentException` if what is not 0 to 5", () -> {
            refusedEach("what", RICH, ARGUMENT, new int[] {6, 7, 8}, (x, what) -> x.row(0, what));
            refusedEach("what", RICH, ARGUMENT, WILD, (x, what) -> x.row(11, what));
        });
    }

    // ---- promise 17

    private static HotPanLocks fullQueue() {
        return after("h6h", "g6p,f6s,e6h,d6p,c6s,b6h,a6p");
    }

    private static void placesOfAQueue() {
        HotPanLocks x = fullQueue();
        for (int place = 0; place < 7; place++) {
            due("hand at place " + place, x.request(6, place, 0), 6 - place);
            due("mode at place " + place, x.request(6, place, 1), place % 3 + 1);
        }
        due("hand at place 7", x.request(6, 7, 0), NONE);
        due("mode at place 7", x.request(6, 7, 1), NONE);
    }

    private static void handAndModeOfARequest() {
        HotPanLocks x = after("b11h,a11s,h11h");
        due("hand 0", x.request(11, 0, 0), 0);
        due("its mode", x.request(11, 0, 1), 2);
        due("hand 7", x.request(11, 1, 0), 7);
        due("its mode", x.request(11, 1, 1), 3);
    }

    private static void notSoManyRequests() {
        HotPanLocks x = after("a0h,b0p,c0p");
        for (int place = 2; place < 8; place++) {
            due("hand", x.request(0, place, 0), NONE);
            due("mode", x.request(0, place, 1), NONE);
        }
        due("the last one there is", x.request(0, 1, 0), 2);
        for (int place = 0; place < 8; place++) {
            due("a row with a holder alone", after("a0h").request(0, place, 1), NONE);
            due("an empty row", x.request(11, place, 0), NONE);
        }
        x.giveUp(1);
        due("one less", x.request(0, 1, 0), NONE);
        due("the other one moved up", x.request(0, 0, 0), 2);
    }

    private static void request() {
        section("Promise 17: request");
        namesNoEdge("Returns a part of a request.", "- `row`: the number of its row");
        holds("- `place`: its place in the queue, 0 to 7", HotPanLocksAnswersTest::placesOfAQueue);
        holds("- `what`: 0: its hand; 1: its mode", HotPanLocksAnswersTest::handAndModeOfARequest);
        holds("Returns the part; NONE if there are not so many.", HotPanLocksAnswersTest::notSoManyRequests);
        holds(NO_ROW, () -> refusedEach("row", RICH, INDEX, NO_ROWS, (x, row) -> x.request(row, 0, 0)));
        holds("Throws `IllegalArgumentException` if place or what is out of range", () -> {
            refusedEach("place", RICH, ARGUMENT, new int[] {8, 9, 12}, (x, place) -> x.request(0, place, 0));
            refusedEach("place", RICH, ARGUMENT, WILD, (x, place) -> x.request(0, place, 1));
            refusedEach("what", RICH, ARGUMENT, new int[] {2, 3, 7}, (x, what) -> x.request(0, 0, what));
            refusedEach("what", RICH, ARGUMENT, WILD, (x, what) -> x.request(0, 0, what));
            refused("what, where there is no request", RICH, ARGUMENT, x -> x.request(11, 7, 2));
        });
    }

    // ---- promise 18

    private static void countsOfWhatThereIs() {
        HotPanLocks x = after("a0p,b0p,c1h,d1p,e1h,f11s");
        due("locks", x.count(0), 4);
        due("hands that wait", x.count(1), 2);
        due("rows with holders", x.count(8), 3);
        HotPanLocks y = new HotPanLocks();
        for (int row = 0; row < 12; row++) {
            for (int hand = 0; hand < 8; hand++) {
                y.ask(hand, row, 1);
            }
        }
        due("the most locks", y.count(0), 96);
        due("the most rows", y.count(8), 12);
        due("nobody waits", y.count(1), 0);
        due("the most that wait", after("a0h", "b0p,c0p,d0p,e0p,f0p,g0p,h0p").count(1), 7);
        due("no locks", new HotPanLocks().count(0), 0);
    }

    private static void countsSoFar() {
        HotPanLocks x = after("a0h,b0h,c0p,a11h,a5p,d5p,e5h,a0p");
        x.pass(21);
        due("ticks", x.count(2), 21);
        due("burnt: a on rows 0 and 11", x.count(3), 2);
        due("lost: nobody", x.count(4), 0);
        x.handOn(1, 0, 2);
        due("handed on", x.count(5), 1);
        due("granted: a thrice and once for nothing, d, b, c", x.count(6), 7);
        due("asked", x.count(7), 8);
        HotPanLocks y = after("a0h,b1h,c1p,b0p");
        y.ask(0, 1, 3);
        due("two lost", y.count(4), 2);
        due("each hand's", y.hand(1, 6) + y.hand(2, 6), 2);
    }

    /** Seven hands lose by each asking of hand 1: six that only wait for hand 0, and then itself; 10 calls each time. */
    private static void moreLoseThanAByteCounts() {
        HotPanLocks x = new HotPanLocks();
        x.ask(0, 0, 3);
        for (int time = 1; time <= 50; time++) {
            x.ask(1, 1, 3);
            for (int hand = 2; hand < 8; hand++) {
                x.ask(hand, 0, 2);
            }
            x.ask(0, 1, 3);
            x.ask(1, 0, 1);
            x.release(0, 1);
        }
        due("lost in all", x.count(4), 350);
        due("each of the seven as often", x.hand(7, 6) + x.hand(1, 6), 100);
        due("hand 0 never", x.hand(0, 6), 0);
    }

    private static void savedStates() {
        HotPanLocks x = new HotPanLocks();
        due("none", x.count(9), 0);
        for (int time = 1; time <= 8; time++) {
            x.cool(0);
            due("saved", x.count(9), Math.min(6, time));
        }
        x.undo();
        due("one less", x.count(9), 5);
    }

    private static void count() {
        section("Promise 18: count");
        namesNoEdge("Returns a number.", "Returns the number.");
        holds("- `what`: 0: locks; 1: hands that wait", HotPanLocksAnswersTest::countsOfWhatThereIs);
        holds("2: ticks so far; 3: locks that are gone by burnt hands so far; 4: how often hands lost so far; 5: how often"
                + " rows were handed on so far; 6: how often hands were granted so far; 7: how often hands asked so far",
                HotPanLocksAnswersTest::countsSoFar);
        holds("4: how often hands lost so far", HotPanLocksAnswersTest::moreLoseThanAByteCounts);
        holds("8: rows with holders", HotPanLocksAnswersTest::countsOfWhatThereIs);
        holds("9: saved states", HotPanLocksAnswersTest::savedStates);
        holds("Throws `IllegalArgumentException` if what is not 0 to 9", () -> {
            refusedEach("what", RICH, ARGUMENT, new int[] {10, 11, 100}, HotPanLocks::count);
            refusedEach("what", RICH, ARGUMENT, WILD, HotPanLocks::count);
        });
    }

    // ---- promise 19

    private static void threeSettings() {
        HotPanLocks x = new HotPanLocks();
        due("0", x.setting(0), 60);
        due("1", x.setting(1), 1);
        due("2", x.setting(2), 2);
    }

    private static void itsValue() {
        HotPanLocks x = new HotPanLocks();
        int[][] values = {{10, 900}, {0, 20}, {0, 50}};
        for (int setting = 0; setting < 3; setting++) {
            for (int value : values[setting]) {
                x.set(setting, value);
                due("value", x.setting(setting), value);
            }
        }
        x.undo();
        due("undone", x.setting(2), 0);
        due("another one", x.setting(0), 900);
    }

    private static void setting() {
        section("Promise 19: setting");
        namesNoEdge("Returns a setting.");
        holds("- `setting`: 0 to 2", HotPanLocksAnswersTest::threeSettings);
        holds("Returns its value.", HotPanLocksAnswersTest::itsValue);
        holds("Throws `IndexOutOfBoundsException` if there is no such setting", () -> {
            refusedEach("setting", RICH, INDEX, new int[] {3, 4, 12}, HotPanLocks::setting);
            refusedEach("setting", RICH, INDEX, WILD, HotPanLocks::setting);
        });
    }

    // ---- promise 20

    private static final Start CHAIN = () -> after("a0h,b1h,c1p,b0p,e3p");
    private static final Start PAIR = () -> after("a0h,b1h,a1p");

    private static void modesToTry() {
        HotPanLocks x = after("a0p");
        for (int mode = 1; mode <= 3; mode++) {
            due("beside a peek, mode " + mode, x.ifAsked(7, 0, mode, 0), mode == 3 ? 1 : 0);
            due("a free row, mode " + mode, x.ifAsked(7, 11, mode, 0), 0);
        }
        due("nothing to be done", x.ifAsked(0, 0, 1, 0), 0);
    }

    private static void whatAskWouldReturn() {
        told("it would have it", RICH, x -> x.ifAsked(7, 11, 3, 0), 0);
        told("nothing to be done", RICH, x -> x.ifAsked(1, 1, 3, 0), 0);
        told("it would wait", RICH, x -> x.ifAsked(6, 1, 1, 0), 1);
        told("it would lose", PAIR, x -> x.ifAsked(1, 0, 1, 0), 2);
        told("others would lose", CHAIN, x -> x.ifAsked(0, 1, 3, 0), 0);
        for (int hand = 0; hand < 8; hand++) {
            for (int row = 0; row < 12; row++) {
                for (int mode = 1; mode <= 3; mode++) {
                    HotPanLocks x = rich();
                    long would = x.ifAsked(hand, row, mode, 0);
                    if (would != NONE) {
                        due("ask as told", x.ask(hand, row, mode), would);
                    }
                }
            }
        }
    }

    private static void howManyWouldLose() {
        told("nobody, granted", RICH, x -> x.ifAsked(6, 11, 3, 1), 0);
        told("nobody, waits", RICH, x -> x.ifAsked(6, 0, 3, 1), 0);
        told("itself", PAIR, x -> x.ifAsked(1, 0, 1, 1), 1);
        told("two others", CHAIN, x -> x.ifAsked(0, 1, 3, 1), 2);
        told("three others and itself", () -> after("a0h,b1h,c2h,d0s,e0s,f0s", "a1p,b2p"), x -> x.ifAsked(2, 0, 1, 1), 4);
        told("those that lost before do not count", () -> after("a0h,b1h,a1p,b0p,b2h"), x -> x.ifAsked(1, 5, 1, 1), 0);
    }

    private static void locksThereWouldBe() {
        told("one more", RICH, x -> x.ifAsked(6, 11, 3, 2), 6);
        told("as many, for it would wait", RICH, x -> x.ifAsked(6, 0, 3, 2), 5);
        told("as many, for it would be made stronger", () -> after("a0p,b1p"), x -> x.ifAsked(0, 0, 3, 2), 2);
        told("as many, for nothing is to be done", RICH, x -> x.ifAsked(1, 1, 3, 2), 5);
        told("its own one gone, and a's granted", PAIR, x -> x.ifAsked(1, 0, 1, 2), 2);
        told("one gone and one granted", CHAIN, x -> x.ifAsked(0, 1, 3, 2), 3);
        told("the first of all", HotPanLocks::new, x -> x.ifAsked(0, 0, 1, 2), 1);
        told("the last of all", HotPanLocksAnswersTest::allButOne, x -> x.ifAsked(7, 11, 1, 2), 96);
    }

    private static HotPanLocks allButOne() {
        HotPanLocks x = new HotPanLocks();
        for (int lock = 0; lock < 95; lock++) {
            x.ask(lock / 12, lock % 12, 1);
        }
        return x;
    }

    private static void nothingIfItWaits() {
        for (int what = 0; what <= 2; what++) {
            int which = what;
            told("for a free row", RICH, x -> x.ifAsked(0, 11, 1, which), NONE);
            told("for the row for which it waits", RICH, x -> x.ifAsked(3, 1, 1, which), NONE);
            told("for what it has", RICH, x -> x.ifAsked(0, 0, 1, which), NONE);
        }
    }

    private static void ifAsked() {
        section("Promise 20: ifAsked");
        namesNoEdge("Tells what asking would do.", "- `hand`: its number", "- `row`: the number of the row");
        holds("- `mode`: 1 to 3", HotPanLocksAnswersTest::modesToTry);
        holds("- `what`: 0: what ask() would return", HotPanLocksAnswersTest::whatAskWouldReturn);
        holds("1: how many hands would lose", HotPanLocksAnswersTest::howManyWouldLose);
        holds("2: the locks that there would be", HotPanLocksAnswersTest::locksThereWouldBe);
        holds("Returns the number; NONE if the hand waits.", HotPanLocksAnswersTest::nothingIfItWaits);
        holds("Throws `IndexOutOfBoundsException` if there is no such hand or row", () -> {
            refusedEach("hand", RICH, INDEX, NO_HANDS, (x, hand) -> x.ifAsked(hand, 5, 1, 0));
            refusedEach("row", RICH, INDEX, NO_ROWS, (x, row) -> x.ifAsked(6, row, 1, 0));
            refusedEach("row, of a hand that waits", RICH, INDEX, NO_ROWS, (x, row) -> x.ifAsked(0, row, 1, 0));
        });
        holds("Throws `IllegalArgumentException` if mode or what is out of range", () -> {
            refusedEach("mode", RICH, ARGUMENT, new int[] {0, 4, 5}, (x, mode) -> x.ifAsked(6, 5, mode, 0));
            refusedEach("mode", RICH, ARGUMENT, WILD, (x, mode) -> x.ifAsked(6, 5, mode, 0));
            refusedEach("what", RICH, ARGUMENT, new int[] {3, 4, 8}, (x, what) -> x.ifAsked(6, 5, 1, what));
            refusedEach("what", RICH, ARGUMENT, WILD, (x, what) -> x.ifAsked(6, 5, 1, what));
            refusedEach("mode of a hand that waits", RICH, ARGUMENT, new int[] {0, 4}, (x, mode) -> x.ifAsked(0, 5, mode, 0));
            refusedEach("what of a hand that waits", RICH, ARGUMENT, new int[] {-1, 3}, (x, what) -> x.ifAsked(0, 5, 1, what));
        });
    }

    // ---- promise 21

    private static void toWhom() {
        HotPanLocks x = after("a0h", "b0h,c0p,d0s,e0h,f0p,g0p,h0s");
        due("all that wait", x.takers(0, 0), 254);
        due("one that waits for it, without a lock", x.takers(1, 0), 0);
        due("no lock on this row", x.takers(0, 1), 0);
        due("nobody waits", after("a0h,b1h,c1p").takers(0, 0), 0);
        HotPanLocks y = after("a11p,h11s,c11h,d11s,e11p,b5p");
        due("beside a stir: a peek", y.takers(0, 11), 16);
        due("beside a peek: a peek and a stir", y.takers(7, 11), 8 | 16);
        HotPanLocks z = after("a0p,b0p,b0h,c0p,d0s");
        due("it waits for it itself", z.takers(1, 0), 0);
        due("to one with a lesser lock, and those beside it", z.takers(0, 0), 2 | 4 | 8);
        due("it waits for another row", after("a0h,b1h,c0p,a1p").takers(0, 0), 4);
        for (int hand = 0; hand < 8; hand++) {
            for (int row = 0; row < 12; row++) {
                asHandOnDoes(hand, row);
            }
        }
    }

    private static void asHandOnDoes(int hand, int row) {
        int mask = 0;
        for (int other = 0; other < 8; other++) {
            try {
                mask |= rich().handOn(hand, row, other) > 0 ? 1 << other : 0;
            } catch (IllegalStateException e) {
                continue;
            }
        }
        due("takers of hand " + hand + " for row " + row, rich().takers(hand, row), mask);
    }

    private static void takers() {
        section("Promise 21: takers");
        namesNoEdge("Tells to whom a row could be handed on.", "- `hand`: its number", "- `row`: the number of the row");
        holds("Returns the hands, as a bit mask, to which the hand could hand it on.", HotPanLocksAnswersTest::toWhom);
        holds("Throws `IndexOutOfBoundsException` if there is no such hand or row", () -> {
            refusedEach("hand", RICH, INDEX, NO_HANDS, (x, hand) -> x.takers(hand, 1));
            refusedEach("row", RICH, INDEX, NO_ROWS, (x, row) -> x.takers(1, row));
        });
    }

    // ---- promise 22

    private static HotPanLocks peekWhere(int isBorne) {
        HotPanLocks x = after("a11p");
        x.set(0, isBorne);
        return x;
    }

    private static void ticksFrom1To300() {
        due("300", peekWhere(299).burnsIn(11), 300);
        due("301 is too far", peekWhere(300).burnsIn(11), NONE);
        due("11", peekWhere(10).burnsIn(11), 11);
        for (int ticks = 1; ticks <= 10; ticks++) {
            HotPanLocks x = peekWhere(10);
            x.pass(ticks);
            due("left after " + ticks, x.burnsIn(11), 11 - ticks);
        }
        HotPanLocks y = peekWhere(300);
        y.pass(1);
        due("from a tick later it is 300", y.burnsIn(11), 300);
        HotPanLocks z = peekWhere(900);
        z.set(1, 3);
        due("900 is reached by the 300th, but borne", z.burnsIn(11), NONE);
        z.set(0, 899);
        due("899 is not", z.burnsIn(11), 300);
    }

    private static void holdersWouldBeBurnt() {
        HotPanLocks x = after("a0p,b1s,c2h,d2p");
        due("peek", x.burnsIn(0), 61);
        due("stir", x.burnsIn(1), 31);
        due("hold", x.burnsIn(2), 21);
        x.set(1, 20);
        due("20 a tick", x.burnsIn(0), 4);
        due("60 a tick, exactly what is borne first", x.burnsIn(2), 2);
        HotPanLocks y = after("a0h");
        y.pass(10);
        y.set(0, 29);
        y.set(1, 0);
        due("it is above already, and gets no hotter", y.burnsIn(0), 1);
        due("so it is", y.pass(1), 1);
        HotPanLocks z = after("a0h,b0p");
        due("the first that would be burnt, then the next", z.pass(20) + z.burnsIn(0), 1);
        z.pass(1);
        due("b, at once", z.burnsIn(0), 1);
    }

    private static void burnsAsTicksTell() {
        for (int row = 0; row < 3; row++) {
            int in = rich().burnsIn(row);
            HotPanLocks x = rich();
            int before = x.row(row, 2);
            x.pass(in - 1);
            due("holders of row " + row + " one tick before", x.row(row, 2), before);
            x.pass(1);
            due("all of them are burnt; a has a request for row 0", x.row(row, 2) & before, row == 0 ? 1 : 0);
        }
        told("nothing is changed", RICH, x -> x.burnsIn(0), 28);
    }

    private static void inNoneOfThem() {
        due("no holders", new HotPanLocks().burnsIn(0), NONE);
        HotPanLocks x = after("a0h");
        x.pass(21);
        due("hot, but no holders any more", x.burnsIn(0), NONE);
        HotPanLocks y = after("a0h");
        y.set(1, 0);
        due("no heating", y.burnsIn(0), NONE);
        HotPanLocks z = after("a0h");
        z.pass(20);
        z.set(1, 0);
        due("no heating, exactly what is borne", z.burnsIn(0), NONE);
    }

    private static void burnsIn() {
        section("Promise 22: burnsIn");
        namesNoEdge("Tells when a row would burn.", "- `row`: its number");
        holds("Returns in how many ticks, 1 to 300", HotPanLocksAnswersTest::ticksFrom1To300);
        holds("holders of this row would be burnt first", HotPanLocksAnswersTest::holdersWouldBeBurnt);
        holds("if nothing but ticks came", HotPanLocksAnswersTest::burnsAsTicksTell);
        holds("NONE if in none of them", HotPanLocksAnswersTest::inNoneOfThem);
        holds(NO_ROW, () -> refusedEach("row", RICH, INDEX, NO_ROWS, HotPanLocks::burnsIn));
    }

    // ---- promise 23

    private static void theseHands() {
        due("it does not wait", after("a0h,b0p").waitsFor(0), 0);
        due("one", after("h0h,a0p").waitsFor(0), 128);
        HotPanLocks x = after("a0h,b1h,c2h,d3h,e4h,f5h,g6h,h7h", "h6p,g5p,f4p,e3p,d2p,c1p,b0p");
        for (int hand = 0; hand < 8; hand++) {
            due("over others, from hand " + hand, x.waitsFor(hand), (1 << hand) - 1);
            due("not over others, from hand " + hand, x.hand(hand, 4), hand == 0 ? 0 : 1 << (hand - 1));
        }
        HotPanLocks y = after("a0h,b1h,c2h,d3h,e4h,f5h,g6h,h7h", "a1p,b2p,c3p,d4p,e5p,f6p,g7p");
        for (int hand = 0; hand < 8; hand++) {
            due("upwards, from hand " + hand, y.waitsFor(hand), 255 & -2 << hand);
        }
        HotPanLocks z = after("a0h,b1h,b0p,c0p,d1p");
        due("over one ahead in the queue", z.waitsFor(2), 3);
        due("over a lock", z.waitsFor(3), 3);
        due("never for itself", z.waitsFor(1), 1);
        told("nothing is changed", RICH, w -> w.waitsFor(3), 2);
    }

    private static void waitsFor() {
        section("Promise 23: waitsFor");
        namesNoEdge("Tells for whom a hand waits, perhaps over others.", "- `hand`: its number");
        holds("Returns these hands, as a bit mask.", HotPanLocksAnswersTest::theseHands);
        holds(NO_HAND, () -> refusedEach("hand", RICH, INDEX, NO_HANDS, HotPanLocks::waitsFor));
    }

    // ---- promise 24

    private static void doesNotWait() {
        HotPanLocks x = after("h0h,b1h,b0p,c1p,d1p,a0p");
        due("h, over b, which waits itself", x.busiest(), 7);
        x.release(7, 0);
        due("b, which waits no more", x.busiest(), 1);
    }

    private static void forWhichMostWait() {
        HotPanLocks x = after("a0h,b1h,c0p,d1p,e1p");
        due("b for two, a for one", x.busiest(), 1);
        did(x, "b0p");
        due("a, over b, for all four", x.busiest(), 0);
        HotPanLocks y = after("a0p,b0s,c0p,d0h,e5h,f5p,g5p");
        due("e for two, a, b and c for one", y.busiest(), 4);
        HotPanLocks z = after("a0h,b1h,b0p,c1p,d1p,h5h,f5p,g5p");
        due("a for one, and over it for two more; h for two", z.busiest(), 0);
        due("all others wait for h", after("h0h", "a0p,b0p,c0p,d0p,e0p,f0p,g0p").busiest(), 7);
    }

    private static void lowestNumberOfSeveral() {
        due("one each", after("h0h,g1h,a0p,b1p").busiest(), 6);
        due("all in the way of one", after("b0p,c0p,h0p,a0h").busiest(), 1);
        due("the first hand", after("a0h,b1h,c1p,d0p").busiest(), 0);
    }

    private static void nobodyWaits() {
        due("no locks", new HotPanLocks().busiest(), NONE);
        due("locks", after("a0h,b1h").busiest(), NONE);
        HotPanLocks x = after("a0h,b0p");
        due("one waits", x.busiest(), 0);
        x.giveUp(1);
        due("it gave up", x.busiest(), NONE);
        told("nothing is changed", RICH, HotPanLocks::busiest, 1);
    }

    private static void busiest() {
        section("Promise 24: busiest");
        namesNoEdge("Finds the hand that is in the way of most.");
        holds("Returns the hand that does not wait", HotPanLocksAnswersTest::doesNotWait);
        holds("and for which most hands wait, perhaps over others", HotPanLocksAnswersTest::forWhichMostWait);
        holds("of several the lowest number", HotPanLocksAnswersTest::lowestNumberOfSeveral);
        holds("NONE if nobody waits", HotPanLocksAnswersTest::nobodyWaits);
    }

    // ---- promise 25

    private static void dueShare(String what, HotPanLocks x, double want) {
        due(what, Double.doubleToRawLongBits(x.grantedShare()), Double.doubleToRawLongBits(want));
    }

    private static void dividedAsDoubles() {
        HotPanLocks x = after("a0h");
        dueShare("all", x, 1.0);
        for (int asked = 2; asked <= 8; asked++) {
            x.ask(asked - 1, 0, 3);
            dueShare("one of " + asked, x, 1.0 / asked);
        }
        x.release(0, 0);
        dueShare("two of eight", x, 0.25);
        HotPanLocks y = after("a0h,b0p");
        for (int asked = 3; asked <= 120; asked++) {
            y.giveUp(1);
            y.ask(1, 0, 1);
            dueShare("one of " + asked, y, 1.0 / asked);
        }
    }

    private static void nobodyAsked() {
        dueShare("a new object", new HotPanLocks(), 1.0);
        HotPanLocks x = after("a0h");
        x.undo();
        dueShare("undone", x, 1.0);
        HotPanLocks y = new HotPanLocks();
        y.pass(100);
        dueShare("ticks alone", y, 1.0);
        HotPanLocks z = after("a0h,b0p");
        z.ifAsked(2, 0, 1, 0);
        dueShare("what would be does not count", z, 0.5);
    }

    private static void grantedShare() {
        section("Promise 25: grantedShare");
        namesNoEdge("Returns how often hands were granted for each time that they asked.");
        holds("Returns count(6), as a double, divided by count(7)", HotPanLocksAnswersTest::dividedAsDoubles);
        holds("1.0 if that is 0", HotPanLocksAnswersTest::nobodyAsked);
    }

    // ---- promise 26

    private static List<Long> valuesOfHands(HotPanLocks x) {
        List<Long> values = new ArrayList<>();
        for (int hand = 0; hand < 8; hand++) {
            for (int what = 0; what <= 8; what++) {
                values.add((long) x.hand(hand, what));
            }
            for (int row = 0; row < 12; row++) {
                values.add((long) x.lock(hand, row));
            }
            values.add((long) x.waitsFor(hand));
        }
        return values;
    }

    private static List<Long> valuesOfRows(HotPanLocks x) {
        List<Long> values = new ArrayList<>();
        for (int row = 0; row < 12; row++) {
            for (int what = 0; what <= 5; what++) {
                values.add((long) x.row(row, what));
            }
            for (int place = 0; place < x.row(row, 3); place++) {
                values.add((long) x.request(row, place, 0));
                values.add((long) x.request(row, place, 1));
            }
            values.add((long) x.burnsIn(row));
            for (int what = 0; what <= 2; what++) {
                values.add((long) x.ifAsked(0, row, 3, what));
            }
            values.add((long) x.takers(0, row));
        }
        return values;
    }

    private static List<Long> values(HotPanLocks x, String buffer) {
        List<Long> values = new ArrayList<>();
        for (int what = 0; what <= 9; what++) {
            values.add((long) x.count(what));
        }
        for (int setting = 0; setting <= 2; setting++) {
            values.add((long) x.setting(setting));
        }
        values.addAll(valuesOfHands(x));
        values.addAll(valuesOfRows(x));
        values.add((long) x.busiest());
        values.add(Double.doubleToLongBits(x.grantedShare()));
        values.add((long) buffer.length());
        for (char code : buffer.toCharArray()) {
            values.add((long) code);
        }
        return values;
    }

    /** In numbers without a bound, of which the last 64 bits are taken once, at the end. */
    private static long hashOf(long first, List<Long> values) {
        BigInteger hash = BigInteger.valueOf(first);
        for (long value : values) {
            hash = hash.multiply(BigInteger.valueOf(31)).add(BigInteger.valueOf(value));
        }
        return hash.longValue();
    }

    /** The values are asked of a second object, for an object is used for 512 calls alone. */
    private static void dueDigest(String what, Start start, String buffer) {
        due(what, start.made().digest(), hashOf(2447, values(start.made(), buffer)));
    }

    private static void startsAt2447() {
        List<Long> values = values(new HotPanLocks(), "");
        due("a new object", new HotPanLocks().digest(), hashOf(2447, values));
        BigInteger rest = BigInteger.valueOf(31).pow(values.size()).multiply(BigInteger.valueOf(2447));
        due("what is left without the values", new HotPanLocks().digest() - hashOf(0, values), rest.longValue());
    }

    private static void overflows() {
        dueDigest("a new object", HotPanLocks::new, "");
        dueDigest("some of all", RICH, "g4p,h");
        dueDigest("more", () -> type(after("h0h,g11h,f11p", "a0h,b0p,c0p,d0p,e0p"), "~"), "~");
    }

    private static void valuesInOrder() {
        dueDigest("counts", () -> after("a0h,b1h,c1p,b0p,a1h,d5p,d5s,d5-,e0h,f0p"), "");
        dueDigest("settings", () -> {
            HotPanLocks x = new HotPanLocks();
            x.set(0, 10);
            x.set(1, 20);
            x.set(2, 50);
            return x;
        }, "");
        dueDigest("heat, burnt and handed on", () -> {
            HotPanLocks x = after("a0h,b0h,c0h,a11h,d11s");
            x.handOn(0, 0, 2);
            x.pass(30);
            return x;
        }, "");
        dueDigest("a full queue", () -> after("h11h", "a11p,b11s,c11h,d11p,e11s,f11h,g11p"), "");
        dueDigest("hand 0 waits", () -> after("b0h,a0h,c0p"), "");
        dueDigest("hand 0 could peek and stir, but not hold", () -> after("b0p,c5s,a6p,d11p"), "");
        dueDigest("hand 0 has what it would ask for, and less", () -> after("a0h,a1s,a2p"), "");
        dueDigest("hand 0 would lose", () -> after("b0h,b5h,a1h,b1p"), "");
        dueDigest("others would lose", () -> after("a0h,b1h,c1p,b0p"), "");
        dueDigest("hand 0 has takers", () -> after("a0h,b0p,c0p,a11p,d11p,e11s,f11h"), "");
        dueDigest("undone", () -> {
            HotPanLocks x = after("a0h,b0h", "a0-");
            x.undo();
            return x;
        }, "");
    }

    private static void bitsOfTheShare() {
        dueDigest("nobody asked", HotPanLocks::new, "");
        for (int asked = 1; asked <= 40; asked++) {
            int times = asked;
            dueDigest("one of " + asked, () -> {
                HotPanLocks x = new HotPanLocks();
                for (int time = 1; time <= times; time++) {
                    x.ask(time == 1 ? 0 : 1, 0, 3);
                    if (time > 1 && time < times) {
                        x.giveUp(1);
                    }
                }
                return x;
            }, "");
        }
        for (int granted = 1; granted <= 20; granted++) {
            int times = granted;
            dueDigest(granted + " of " + (granted + 7), () -> {
                HotPanLocks x = new HotPanLocks();
                for (int time = 0; time < times; time++) {
                    x.ask(0, 0, 3);
                }
                for (int hand = 1; hand < 8; hand++) {
                    x.ask(hand, 0, 3);
                }
                return x;
            }, "");
        }
    }

    private static void bufferOfTheDigest() {
        String codes = "!\"#$%&'()*+,-./0123456789:;<=>?@ABCDEFGHIJKLMNOPQRSTUVWXYZ[\\]^_`abcdefghijklmnopqrstuvwxyz{|}~";
        dueDigest("the first half of all codes", () -> typed(codes.substring(0, 60)), codes.substring(0, 60));
        dueDigest("the second half", () -> typed(codes.substring(34)), codes.substring(34));
        dueDigest("one character", () -> typed("a"), "a");
        dueDigest("cleared", () -> {
            HotPanLocks x = typed("abc");
            x.clearBuffer();
            return x;
        }, "");
        dueDigest("shorter than before", () -> {
            HotPanLocks x = typed("abc");
            x.clearBuffer();
            return type(x, "d");
        }, "d");
        told("nothing is changed", RICH, x -> x.digest() - x.digest(), 0);
    }

    private static void digest() {
        section("Promise 26: digest");
        namesNoEdge("Computes a hash of the whole state.", "Returns the hash.");
        holds("The hash starts at 2447.", HotPanLocksAnswersTest::startsAt2447);
        holds("the hash becomes 31 * hash + v, in long arithmetic with overflow", HotPanLocksAnswersTest::overflows);
        holds("The values are: count(0) to count(9); the settings 0 to 2; for each hand its properties 0 to 8, its locks on"
                + " the rows 0 to 11, and waitsFor; for each row its properties 0 to 5, for each of its requests the parts"
                + " 0 and 1, burnsIn, ifAsked of the hand 0 in the mode 3 with 0 to 2, and takers of the hand 0; busiest",
                HotPanLocksAnswersTest::valuesInOrder);
        holds("the bits of grantedShare (as Double.doubleToLongBits)", HotPanLocksAnswersTest::bitsOfTheShare);
        holds("the length of the buffer and each of its character codes", HotPanLocksAnswersTest::bufferOfTheDigest);
    }

    public static void main(String[] args) {
        lock();
        hand();
        row();
        request();
        count();
        setting();
        ifAsked();
        takers();
        burnsIn();
        waitsFor();
        busiest();
        grantedShare();
        digest();
        end("Promise 14: lock", "Promise 26: digest");
    }
}
