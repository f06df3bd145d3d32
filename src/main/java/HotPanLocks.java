/** Row locks that are handed on like a hot pan; ../shared/DOC.md says what each call does. */
public final class HotPanLocks {
    /** There is nothing to return. */
    public static final int NONE = -1;

    private static final int HANDS = 8;
    private static final int ROWS = 12;
    private static final int HOLD = 3;
    private static final int GREATEST_SUM = 3;

    private static final int GRANTED = 0;
    private static final int WAITING = 1;
    private static final int LOST = 2;

    private static final int SETTINGS = 3;
    private static final int HEAT_BORNE = 0;
    private static final int HEATING = 1;
    private static final int COOLING = 2;
    private static final int MOST_HEAT = 1000;
    private static final int MOST_TICKS = 100;
    private static final int TICKS_AHEAD = 300;

    private static final int HAND_PARTS = 9;
    private static final int ROW_PARTS = 6;
    private static final int REQUEST_PARTS = 2;
    private static final int TRIAL_PARTS = 3;
    private static final int COUNTS = 10;
    private static final int COUNT_OF_SAVED = 9;

    private static final int MOST_SAVED = 6;
    private static final int MOST_CODES = 60;
    private static final int FIRST_CODE = 33;
    private static final int LAST_CODE = 126;

    private static final int HAND_DUE = 0;
    private static final int ROW_DUE = 1;
    private static final int DIGIT_OR_DEED_DUE = 2;
    private static final int DEED_DUE = 3;
    private static final int COMMA_DUE = 4;
    private static final int FAULT = 5;

    private static final long FIRST_HASH = 2447L;

    private final State state = new State();
    private final State trial = new State();
    private final History history = new History();
    private final Text text = new Text();

    public HotPanLocks() {
    }

    // ---- locks

    public int ask(int hand, int row, int mode)
            throws IndexOutOfBoundsException, IllegalArgumentException, IllegalStateException {
        if (!isHand(hand) || !isRow(row)) {
            throw new IndexOutOfBoundsException("no such hand or row");
        }
        if (!isMode(mode)) {
            throw new IllegalArgumentException("mode is out of range");
        }
        if (state.isWaiting(hand)) {
            throw new IllegalStateException("the hand waits");
        }
        history.save(state);
        return state.takeAsking(hand, row, mode);
    }

    public int release(int hand, int row) throws IndexOutOfBoundsException, IllegalStateException {
        if (!isHand(hand) || !isRow(row)) {
            throw new IndexOutOfBoundsException("no such hand or row");
        }
        if (!state.canLetGo(hand, row)) {
            throw new IllegalStateException("the hand has no lock on the row, or waits for it");
        }
        history.save(state);
        return state.letGo(hand, row);
    }

    public int giveUp(int hand) throws IndexOutOfBoundsException, IllegalStateException {
        if (!isHand(hand)) {
            throw new IndexOutOfBoundsException("no such hand");
        }
        if (!state.isWaiting(hand)) {
            throw new IllegalStateException("the hand does not wait");
        }
        history.save(state);
        return state.stopWaiting(hand);
    }

    public int handOn(int hand, int row, int other) throws IndexOutOfBoundsException, IllegalStateException {
        if (!isHand(hand) || !isRow(row) || !isHand(other)) {
            throw new IndexOutOfBoundsException("no such hand or row");
        }
        if (!state.canPassOver(hand, row, other)) {
            throw new IllegalStateException("the row can't be handed on to this hand");
        }
        history.save(state);
        return state.passOver(hand, row, other);
    }

    public int pass(int ticks) throws IllegalArgumentException {
        if (ticks < 1 || ticks > MOST_TICKS) {
            throw new IllegalArgumentException("ticks is out of range");
        }
        history.save(state);
        int gone = 0;
        for (int tick = 0; tick < ticks; tick++) {
            gone += state.tick();
        }
        return gone;
    }

    public int cool(int row) throws IndexOutOfBoundsException, IllegalStateException {
        if (!isRow(row)) {
            throw new IndexOutOfBoundsException("no such row");
        }
        if (state.holders(row) != 0) {
            throw new IllegalStateException("the row has holders");
        }
        history.save(state);
        int before = state.heat.at(row);
        state.heat.put(row, 0);
        return before;
    }

    public int set(int setting, int value) throws IndexOutOfBoundsException, IllegalArgumentException {
        if (!isSetting(setting)) {
            throw new IndexOutOfBoundsException("no such setting");
        }
        if (value < leastValue(setting) || value > greatestValue(setting)) {
            throw new IllegalArgumentException("value is out of range");
        }
        history.save(state);
        int before = state.settings.at(setting);
        state.settings.put(setting, value);
        return before;
    }

    // ---- texts

    public int append(int code) throws IllegalArgumentException, IllegalStateException {
        if (code < FIRST_CODE || code > LAST_CODE) {
            throw new IllegalArgumentException("code is not 33 to 126");
        }
        if (text.length >= MOST_CODES) {
            throw new IllegalStateException("the buffer is full");
        }
        return text.add(code);
    }

    public int clearBuffer() {
        return text.empty();
    }

    public int firstError() {
        return text.firstFault();
    }

    public int run() throws IllegalArgumentException {
        if (!text.isComplete()) {
            throw new IllegalArgumentException("the buffer is not a complete row of requests");
        }
        history.save(state);
        int done = 0;
        int start = 0;
        for (int turn = 0; turn < MOST_CODES && start < text.length; turn++) {
            int end = text.deedFrom(start);
            if (!carryOut(start, end)) {
                break;
            }
            done++;
            start = end + 2;
        }
        text.empty();
        return done;
    }

    public int undo() throws IllegalStateException {
        if (history.kept == 0) {
            throw new IllegalStateException("there is no saved state");
        }
        return history.restore(state);
    }

    // ---- what there is

    public int lock(int hand, int row) throws IndexOutOfBoundsException {
        if (!isHand(hand) || !isRow(row)) {
            throw new IndexOutOfBoundsException("no such hand or row");
        }
        return state.locks.at(cell(hand, row));
    }

    public int hand(int hand, int what) throws IndexOutOfBoundsException, IllegalArgumentException {
        if (!isHand(hand)) {
            throw new IndexOutOfBoundsException("no such hand");
        }
        if (what < 0 || what >= HAND_PARTS) {
            throw new IllegalArgumentException("what is not 0 to 8");
        }
        return state.handPart(hand, what);
    }

    public int row(int row, int what) throws IndexOutOfBoundsException, IllegalArgumentException {
        if (!isRow(row)) {
            throw new IndexOutOfBoundsException("no such row");
        }
        if (what < 0 || what >= ROW_PARTS) {
            throw new IllegalArgumentException("what is not 0 to 5");
        }
        return state.rowPart(row, what);
    }

    public int request(int row, int place, int what) throws IndexOutOfBoundsException, IllegalArgumentException {
        if (!isRow(row)) {
            throw new IndexOutOfBoundsException("no such row");
        }
        if (place < 0 || place >= HANDS || what < 0 || what >= REQUEST_PARTS) {
            throw new IllegalArgumentException("place or what is out of range");
        }
        return state.requestPart(row, place, what);
    }

    public int count(int what) throws IllegalArgumentException {
        if (what < 0 || what >= COUNTS) {
            throw new IllegalArgumentException("what is not 0 to 9");
        }
        return numberOf(what);
    }

    public int setting(int setting) throws IndexOutOfBoundsException {
        if (!isSetting(setting)) {
            throw new IndexOutOfBoundsException("no such setting");
        }
        return state.settings.at(setting);
    }

    // ---- what would be; nothing is changed

    public int ifAsked(int hand, int row, int mode, int what)
            throws IndexOutOfBoundsException, IllegalArgumentException {
        if (!isHand(hand) || !isRow(row)) {
            throw new IndexOutOfBoundsException("no such hand or row");
        }
        if (!isMode(mode) || what < 0 || what >= TRIAL_PARTS) {
            throw new IllegalArgumentException("mode or what is out of range");
        }
        return trialPart(tryAsking(hand, row, mode), what);
    }

    public int takers(int hand, int row) throws IndexOutOfBoundsException {
        if (!isHand(hand) || !isRow(row)) {
            throw new IndexOutOfBoundsException("no such hand or row");
        }
        return state.takersOf(hand, row);
    }

    public int burnsIn(int row) throws IndexOutOfBoundsException {
        if (!isRow(row)) {
            throw new IndexOutOfBoundsException("no such row");
        }
        return state.ticksToBurn(row);
    }

    public int waitsFor(int hand) throws IndexOutOfBoundsException {
        if (!isHand(hand)) {
            throw new IndexOutOfBoundsException("no such hand");
        }
        return state.reach(hand);
    }

    public int busiest() {
        return state.mostWaitedFor();
    }

    public double grantedShare() {
        return state.shareGranted();
    }

    public long digest() {
        long hash = FIRST_HASH;
        for (int what = 0; what < COUNTS; what++) {
            hash = mix(hash, numberOf(what));
        }
        for (int setting = 0; setting < SETTINGS; setting++) {
            hash = mix(hash, state.settings.at(setting));
        }
        for (int hand = 0; hand < HANDS; hand++) {
            hash = mixHand(hash, hand);
        }
        for (int row = 0; row < ROWS; row++) {
            hash = mixRow(hash, row, tryAsking(0, row, HOLD));
        }
        hash = mix(hash, state.mostWaitedFor());
        hash = mix(hash, bitsOfShare(state.shareGranted()));
        hash = mix(hash, text.length);
        for (int place = 0; place < text.length; place++) {
            hash = mix(hash, text.codes.at(place));
        }
        return hash;
    }

    // ---- within

    private static boolean isHand(int hand) {
        return hand >= 0 && hand < HANDS;
    }

    private static boolean isRow(int row) {
        return row >= 0 && row < ROWS;
    }

    private static boolean isMode(int mode) {
        return mode >= 1 && mode <= HOLD;
    }

    private static boolean isSetting(int setting) {
        return setting >= 0 && setting < SETTINGS;
    }

    private static int leastValue(int setting) {
        return setting == HEAT_BORNE ? 10 : 0;
    }

    private static int greatestValue(int setting) {
        if (setting == HEAT_BORNE) {
            return 900;
        }
        return setting == HEATING ? 20 : 50;
    }

    private static int cell(int hand, int row) {
        return hand * ROWS + row;
    }

    private static boolean has(int mask, int number) {
        return (mask >> number & 1) != 0;
    }

    /** Carries out one request of the text; false, and nothing done, if its method would throw. */
    private boolean carryOut(int start, int end) {
        int hand = text.codes.at(start) - 'a';
        int row = text.numberBetween(start, end);
        int mode = modeOf(text.codes.at(end));
        if (mode == 0) {
            if (!state.canLetGo(hand, row)) {
                return false;
            }
            state.letGo(hand, row);
            return true;
        }
        if (state.isWaiting(hand)) {
            return false;
        }
        state.takeAsking(hand, row, mode);
        return true;
    }

    /** The mode that a letter asks for; 0 for the sign that releases. */
    private static int modeOf(int code) {
        switch (code) {
            case 'p':
                return 1;
            case 's':
                return 2;
            case 'h':
                return HOLD;
            default:
                return 0;
        }
    }

    private int numberOf(int what) {
        return what == COUNT_OF_SAVED ? history.kept : state.total(what);
    }

    /** What asking would return; NONE if the hand waits. The state after it then stands in trial. */
    private int tryAsking(int hand, int row, int mode) {
        if (state.isWaiting(hand)) {
            return NONE;
        }
        trial.copyFrom(state);
        return trial.takeAsking(hand, row, mode);
    }

    private int trialPart(int answer, int what) {
        if (answer == NONE || what == 0) {
            return answer;
        }
        return what == 1 ? trial.lost.sum() - state.lost.sum() : trial.lockCount();
    }

    private static long mix(long hash, long value) {
        return 31L * hash + value;
    }

    private long mixHand(long before, int hand) {
        long hash = before;
        for (int what = 0; what < HAND_PARTS; what++) {
            hash = mix(hash, state.handPart(hand, what));
        }
        for (int row = 0; row < ROWS; row++) {
            hash = mix(hash, state.locks.at(cell(hand, row)));
        }
        return mix(hash, state.reach(hand));
    }

    private long mixRow(long before, int row, int answer) {
        long hash = before;
        for (int what = 0; what < ROW_PARTS; what++) {
            hash = mix(hash, state.rowPart(row, what));
        }
        int requests = state.queueLength(row);
        for (int place = 0; place < requests; place++) {
            hash = mix(hash, state.requestPart(row, place, 0));
            hash = mix(hash, state.requestPart(row, place, 1));
        }
        hash = mix(hash, state.ticksToBurn(row));
        for (int what = 0; what < TRIAL_PARTS; what++) {
            hash = mix(hash, trialPart(answer, what));
        }
        return mix(hash, state.takersOf(0, row));
    }

    /**
     * The bits of a share as Double.doubleToLongBits gives them, which LANGUAGE.md does not list.
     * A share is 0 to 1, for each asking is granted once at most; so it need only be doubled.
     */
    private static long bitsOfShare(double share) {
        if (!(share > 0.0)) {
            return 0L;
        }
        double scaled = share;
        long exponent = 1023L;
        for (int step = 0; step < 1022 && scaled < 1.0; step++) {
            scaled = scaled * 2.0;
            exponent--;
        }
        long fraction = (long) ((scaled - 1.0) * 4503599627370496.0);
        return (exponent << 52) + fraction;
    }

    /** A row of numbers of a fixed length whose every index is looked at before it is used. */
    private static final class Numbers {
        private final int[] cells;

        Numbers(int length) {
            cells = new int[length > 0 ? length : 0];
        }

        int at(int index) {
            return index >= 0 && index < cells.length ? cells[index] : 0;
        }

        void put(int index, int value) {
            if (index >= 0 && index < cells.length) {
                cells[index] = value;
            }
        }

        void raise(int index) {
            put(index, at(index) + 1);
        }

        int sum() {
            int sum = 0;
            for (int index = 0; index < cells.length; index++) {
                sum += cells[index];
            }
            return sum;
        }

        void copyFrom(Numbers from) {
            if (from != null && from.cells.length == cells.length) {
                System.arraycopy(from.cells, 0, cells, 0, cells.length);
            }
        }
    }

    /** All that undo restores: locks, requests, heat, settings, and what is counted so far. */
    private static final class State {
        final Numbers locks = new Numbers(HANDS * ROWS);
        // A queue is kept as the places of the hands in it, so that no queue can name a wrong hand.
        // A hand that does not wait has NONE as the row of its request.
        final Numbers requestRow = new Numbers(HANDS);
        final Numbers requestMode = new Numbers(HANDS);
        final Numbers requestPlace = new Numbers(HANDS);
        final Numbers heat = new Numbers(ROWS);
        final Numbers handedOn = new Numbers(ROWS);
        final Numbers burnt = new Numbers(HANDS);
        final Numbers lost = new Numbers(HANDS);
        final Numbers granted = new Numbers(HANDS);
        final Numbers asked = new Numbers(HANDS);
        final Numbers settings = new Numbers(SETTINGS);
        int ticks = 0;

        State() {
            settings.put(HEAT_BORNE, 60);
            settings.put(HEATING, 1);
            settings.put(COOLING, 2);
            for (int hand = 0; hand < HANDS; hand++) {
                requestRow.put(hand, NONE);
            }
        }

        void copyFrom(State from) {
            if (from == null) {
                return;
            }
            locks.copyFrom(from.locks);
            requestRow.copyFrom(from.requestRow);
            requestMode.copyFrom(from.requestMode);
            requestPlace.copyFrom(from.requestPlace);
            heat.copyFrom(from.heat);
            handedOn.copyFrom(from.handedOn);
            burnt.copyFrom(from.burnt);
            lost.copyFrom(from.lost);
            granted.copyFrom(from.granted);
            asked.copyFrom(from.asked);
            settings.copyFrom(from.settings);
            ticks = from.ticks;
        }

        // -- queues

        boolean isWaiting(int hand) {
            return requestRow.at(hand) != NONE;
        }

        int queueLength(int row) {
            int length = 0;
            for (int hand = 0; hand < HANDS; hand++) {
                if (requestRow.at(hand) == row) {
                    length++;
                }
            }
            return length;
        }

        /** The hand whose request has this place in the queue of the row; NONE without one. */
        int handAt(int row, int place) {
            for (int hand = 0; hand < HANDS; hand++) {
                if (requestRow.at(hand) == row && requestPlace.at(hand) == place) {
                    return hand;
                }
            }
            return NONE;
        }

        void enqueue(int hand, int row, int mode) {
            int place = locks.at(cell(hand, row)) > 0 ? placeForHolder(row) : queueLength(row);
            for (int other = 0; other < HANDS; other++) {
                if (requestRow.at(other) == row && requestPlace.at(other) >= place) {
                    requestPlace.raise(other);
                }
            }
            requestRow.put(hand, row);
            requestMode.put(hand, mode);
            requestPlace.put(hand, place);
        }

        /** The place behind all requests of hands with a lock on the row. */
        int placeForHolder(int row) {
            int place = 0;
            for (int other = 0; other < HANDS; other++) {
                if (requestRow.at(other) == row && locks.at(cell(other, row)) > 0) {
                    place = Math.max(place, requestPlace.at(other) + 1);
                }
            }
            return place;
        }

        void dequeue(int hand) {
            int row = requestRow.at(hand);
            int place = requestPlace.at(hand);
            requestRow.put(hand, NONE);
            requestMode.put(hand, 0);
            for (int other = 0; other < HANDS; other++) {
                if (requestRow.at(other) == row && requestPlace.at(other) > place) {
                    requestPlace.put(other, requestPlace.at(other) - 1);
                }
            }
        }

        /** Whether the mode clashes with a lock on the row of a hand that is neither of the two. */
        boolean clashes(int row, int mode, int hand, int second) {
            for (int other = 0; other < HANDS; other++) {
                if (other != hand && other != second && locks.at(cell(other, row)) + mode > GREATEST_SUM) {
                    return true;
                }
            }
            return false;
        }

        void grant(int hand) {
            locks.put(cell(hand, requestRow.at(hand)), requestMode.at(hand));
            granted.raise(hand);
            dequeue(hand);
        }

        /** Settles a row; returns how many requests are granted by it. */
        int settle(int row) {
            int grants = 0;
            for (int turn = 0; turn < HANDS; turn++) {
                int first = handAt(row, 0);
                if (first == NONE || clashes(row, requestMode.at(first), first, first)) {
                    break;
                }
                grant(first);
                grants++;
            }
            return grants;
        }

        // -- rings

        /** The hands for which a hand waits, not over others. */
        int direct(int hand) {
            if (!isWaiting(hand)) {
                return 0;
            }
            int row = requestRow.at(hand);
            int mode = requestMode.at(hand);
            int place = requestPlace.at(hand);
            int mask = 0;
            for (int other = 0; other < HANDS; other++) {
                boolean inTheWay = locks.at(cell(other, row)) + mode > GREATEST_SUM;
                boolean ahead = requestRow.at(other) == row && requestPlace.at(other) < place;
                if (other != hand && (inTheWay || ahead)) {
                    mask |= 1 << other;
                }
            }
            return mask;
        }

        /** The hands for which a hand waits, perhaps over others. */
        int reach(int hand) {
            int reached = direct(hand);
            for (int round = 0; round < HANDS; round++) {
                int further = reached;
                for (int other = 0; other < HANDS; other++) {
                    if (has(reached, other)) {
                        further |= direct(other);
                    }
                }
                if (further == reached) {
                    break;
                }
                reached = further;
            }
            return reached;
        }

        /** The hand that loses in the ring of a hand; NONE if it is in no ring. */
        int loserFor(int hand) {
            int reached = reach(hand);
            int loser = NONE;
            if (!has(reached, hand)) {
                return loser;
            }
            int least = 0;
            for (int other = 0; other < HANDS; other++) {
                if (has(reached, other) && has(reach(other), hand)) {
                    int work = work(other);
                    if (loser == NONE || work <= least) {
                        loser = other;
                        least = work;
                    }
                }
            }
            return loser;
        }

        /** Takes all from a hand that loses; returns the rows that are to be settled, as a bit mask. */
        int strip(int hand) {
            int rows = 0;
            for (int row = 0; row < ROWS; row++) {
                if (locks.at(cell(hand, row)) > 0) {
                    rows |= 1 << row;
                    locks.put(cell(hand, row), 0);
                }
            }
            if (isWaiting(hand)) {
                rows |= 1 << requestRow.at(hand);
                dequeue(hand);
            }
            lost.raise(hand);
            return rows;
        }

        // -- deeds; the caller has made sure that none of them would throw

        int takeAsking(int hand, int row, int mode) {
            asked.raise(hand);
            if (locks.at(cell(hand, row)) >= mode) {
                granted.raise(hand);
                return GRANTED;
            }
            enqueue(hand, row, mode);
            settle(row);
            // Each loser's request is gone, so there are not more turns than hands.
            for (int turn = 0; turn < HANDS; turn++) {
                int loser = loserFor(hand);
                if (loser == NONE) {
                    break;
                }
                int freed = strip(loser);
                for (int other = 0; other < ROWS; other++) {
                    if (has(freed, other)) {
                        settle(other);
                    }
                }
            }
            if (locks.at(cell(hand, row)) >= mode) {
                return GRANTED;
            }
            return isWaiting(hand) ? WAITING : LOST;
        }

        boolean canLetGo(int hand, int row) {
            return locks.at(cell(hand, row)) > 0 && requestRow.at(hand) != row;
        }

        int letGo(int hand, int row) {
            locks.put(cell(hand, row), 0);
            return settle(row);
        }

        int stopWaiting(int hand) {
            int row = requestRow.at(hand);
            dequeue(hand);
            settle(row);
            return row;
        }

        boolean canPassOver(int hand, int row, int other) {
            return canLetGo(hand, row) && hand != other && requestRow.at(other) == row
                    && !clashes(row, requestMode.at(other), hand, other);
        }

        int passOver(int hand, int row, int other) {
            locks.put(cell(hand, row), 0);
            grant(other);
            handedOn.raise(row);
            settle(row);
            return locks.at(cell(other, row));
        }

        int takersOf(int hand, int row) {
            int mask = 0;
            for (int other = 0; other < HANDS; other++) {
                if (canPassOver(hand, row, other)) {
                    mask |= 1 << other;
                }
            }
            return mask;
        }

        // -- heat

        int heatAfter(int before, int mode) {
            if (mode > 0) {
                return Math.min(MOST_HEAT, before + mode * settings.at(HEATING));
            }
            return Math.max(0, before - settings.at(COOLING));
        }

        /** Lets a tick pass; returns how many locks are gone by it. */
        int tick() {
            ticks++;
            for (int row = 0; row < ROWS; row++) {
                heat.put(row, heatAfter(heat.at(row), greatestMode(row)));
            }
            int gone = 0;
            for (int row = 0; row < ROWS; row++) {
                if (heat.at(row) > settings.at(HEAT_BORNE)) {
                    gone += burn(row);
                }
            }
            return gone;
        }

        int burn(int row) {
            int gone = 0;
            for (int hand = 0; hand < HANDS; hand++) {
                if (locks.at(cell(hand, row)) > 0) {
                    locks.put(cell(hand, row), 0);
                    burnt.raise(hand);
                    gone++;
                }
            }
            if (gone > 0) {
                settle(row);
            }
            return gone;
        }

        int ticksToBurn(int row) {
            int mode = greatestMode(row);
            // A settled row without holders has no requests either, so ticks alone bring none.
            if (mode == 0) {
                return NONE;
            }
            int warmth = heat.at(row);
            for (int tick = 1; tick <= TICKS_AHEAD; tick++) {
                warmth = heatAfter(warmth, mode);
                if (warmth > settings.at(HEAT_BORNE)) {
                    return tick;
                }
            }
            return NONE;
        }

        // -- what there is

        int greatestMode(int row) {
            int greatest = 0;
            for (int hand = 0; hand < HANDS; hand++) {
                greatest = Math.max(greatest, locks.at(cell(hand, row)));
            }
            return greatest;
        }

        int holders(int row) {
            int mask = 0;
            for (int hand = 0; hand < HANDS; hand++) {
                if (locks.at(cell(hand, row)) > 0) {
                    mask |= 1 << hand;
                }
            }
            return mask;
        }

        int locksOf(int hand) {
            int number = 0;
            for (int row = 0; row < ROWS; row++) {
                if (locks.at(cell(hand, row)) > 0) {
                    number++;
                }
            }
            return number;
        }

        int work(int hand) {
            int sum = 0;
            for (int row = 0; row < ROWS; row++) {
                sum += locks.at(cell(hand, row));
            }
            return sum;
        }

        int lockCount() {
            int number = 0;
            for (int hand = 0; hand < HANDS; hand++) {
                number += locksOf(hand);
            }
            return number;
        }

        int waitingCount() {
            int number = 0;
            for (int hand = 0; hand < HANDS; hand++) {
                if (isWaiting(hand)) {
                    number++;
                }
            }
            return number;
        }

        int heldRows() {
            int number = 0;
            for (int row = 0; row < ROWS; row++) {
                if (holders(row) != 0) {
                    number++;
                }
            }
            return number;
        }

        int handPart(int hand, int what) {
            switch (what) {
                case 0:
                    return locksOf(hand);
                case 1:
                    return work(hand);
                case 2:
                    return requestRow.at(hand);
                case 3:
                    return requestMode.at(hand);
                case 4:
                    return direct(hand);
                case 5:
                    return burnt.at(hand);
                case 6:
                    return lost.at(hand);
                case 7:
                    return granted.at(hand);
                default:
                    return asked.at(hand);
            }
        }

        int rowPart(int row, int what) {
            switch (what) {
                case 0:
                    return heat.at(row);
                case 1:
                    return greatestMode(row);
                case 2:
                    return holders(row);
                case 3:
                    return queueLength(row);
                case 4:
                    return handedOn.at(row);
                default:
                    return handAt(row, 0);
            }
        }

        int requestPart(int row, int place, int what) {
            int hand = handAt(row, place);
            return hand == NONE || what == 0 ? hand : requestMode.at(hand);
        }

        /** The counts 0 to 8. */
        int total(int what) {
            switch (what) {
                case 0:
                    return lockCount();
                case 1:
                    return waitingCount();
                case 2:
                    return ticks;
                case 3:
                    return burnt.sum();
                case 4:
                    return lost.sum();
                case 5:
                    return handedOn.sum();
                case 6:
                    return granted.sum();
                case 7:
                    return asked.sum();
                default:
                    return heldRows();
            }
        }

        int mostWaitedFor() {
            if (waitingCount() == 0) {
                return NONE;
            }
            int found = NONE;
            int most = 0;
            for (int hand = 0; hand < HANDS; hand++) {
                int waiters = isWaiting(hand) ? 0 : waitersFor(hand);
                if (waiters > most) {
                    found = hand;
                    most = waiters;
                }
            }
            return found;
        }

        int waitersFor(int hand) {
            int number = 0;
            for (int other = 0; other < HANDS; other++) {
                if (has(reach(other), hand)) {
                    number++;
                }
            }
            return number;
        }

        double shareGranted() {
            int times = asked.sum();
            return times == 0 ? 1.0 : (double) granted.sum() / (double) times;
        }
    }

    /** The states that undo restores: slots made once, used in turn, the oldest one again first. */
    private static final class History {
        private final State[] slots = new State[MOST_SAVED];
        private int next = 0;
        int kept = 0;

        History() {
            for (int index = 0; index < slots.length; index++) {
                slots[index] = new State();
            }
        }

        private State slotAt(int index) {
            return index >= 0 && index < slots.length ? slots[index] : null;
        }

        void save(State state) {
            State slot = slotAt(next);
            if (slot == null) {
                return;
            }
            slot.copyFrom(state);
            next = next + 1 < MOST_SAVED ? next + 1 : 0;
            kept = Math.min(MOST_SAVED, kept + 1);
        }

        /** Restores the latest saved state into the given one; returns how many are left. */
        int restore(State state) {
            int latest = next > 0 ? next - 1 : MOST_SAVED - 1;
            State slot = slotAt(latest);
            if (slot != null && state != null && kept > 0) {
                state.copyFrom(slot);
                next = latest;
                kept--;
            }
            return kept;
        }
    }

    /** The buffer, and how its characters are read. */
    private static final class Text {
        final Numbers codes = new Numbers(MOST_CODES);
        int length = 0;

        int add(int code) {
            codes.put(length, code);
            length++;
            return length;
        }

        int empty() {
            int before = length;
            length = 0;
            return before;
        }

        int firstFault() {
            int due = HAND_DUE;
            for (int place = 0; place < length; place++) {
                due = dueAfter(due, codes.at(place));
                if (due == FAULT) {
                    return place;
                }
            }
            return length;
        }

        boolean isComplete() {
            int due = HAND_DUE;
            for (int place = 0; place < length; place++) {
                due = dueAfter(due, codes.at(place));
            }
            return due == COMMA_DUE;
        }

        /** What is due behind a character; FAULT if the character itself was not due. */
        private static int dueAfter(int due, int code) {
            switch (due) {
                case HAND_DUE:
                    return code >= 'a' && code <= 'h' ? ROW_DUE : FAULT;
                case ROW_DUE:
                    if (code == '1') {
                        return DIGIT_OR_DEED_DUE;
                    }
                    return isDigit(code) ? DEED_DUE : FAULT;
                case DIGIT_OR_DEED_DUE:
                    if (code == '0' || code == '1') {
                        return DEED_DUE;
                    }
                    return isDeed(code) ? COMMA_DUE : FAULT;
                case DEED_DUE:
                    return isDeed(code) ? COMMA_DUE : FAULT;
                case COMMA_DUE:
                    return code == ',' ? HAND_DUE : FAULT;
                default:
                    return FAULT;
            }
        }

        private static boolean isDigit(int code) {
            return code >= '0' && code <= '9';
        }

        private static boolean isDeed(int code) {
            return code == 'p' || code == 's' || code == 'h' || code == '-';
        }

        /** The index of the character that ends the request which starts here. */
        int deedFrom(int start) {
            int end = start + 1;
            while (end < length && isDigit(codes.at(end))) {
                end++;
            }
            return end;
        }

        /** The number of the row, which stands between the hand and the deed. */
        int numberBetween(int start, int end) {
            int number = 0;
            for (int place = start + 1; place < end; place++) {
                number = number * 10 + codes.at(place) - '0';
            }
            return number;
        }
    }
}
