import java.util.ArrayList;
import java.util.Arrays;
import java.util.List;
import java.util.TreeMap;
import java.util.TreeSet;

/** Long runs of made-up calls, each answer held against a plain model that is written from the document alone. */
public final class HotPanLocksModelTest {
    /** The exceptions of the document, as answers. */
    private static final long INDEX = 1L << 40;
    private static final long ARGUMENT = 2L << 40;
    private static final long STATE = 3L << 40;

    private record Request(int hand, int mode) {
    }

    /** What undo restores. */
    private static final class Table {
        List<TreeMap<Integer, Integer>> locks = new ArrayList<>();
        List<List<Request>> queues = new ArrayList<>();
        int[] heat = new int[12];
        int[] handedOn = new int[12];
        int[] burnt = new int[8];
        int[] lost = new int[8];
        int[] granted = new int[8];
        int[] asked = new int[8];
        int[] settings = {60, 1, 2};
        int ticks;

        Table() {
            for (int row = 0; row < 12; row++) {
                locks.add(new TreeMap<>());
                queues.add(new ArrayList<>());
            }
        }

        Table copy() {
            Table t = new Table();
            for (int row = 0; row < 12; row++) {
                t.locks.get(row).putAll(locks.get(row));
                t.queues.get(row).addAll(queues.get(row));
            }
            t.heat = heat.clone();
            t.handedOn = handedOn.clone();
            t.burnt = burnt.clone();
            t.lost = lost.clone();
            t.granted = granted.clone();
            t.asked = asked.clone();
            t.settings = settings.clone();
            t.ticks = ticks;
            return t;
        }

        int lock(int hand, int row) {
            return locks.get(row).getOrDefault(hand, 0);
        }

        int waitRow(int hand) {
            for (int row = 0; row < 12; row++) {
                for (Request r : queues.get(row)) {
                    if (r.hand == hand) {
                        return row;
                    }
                }
            }
            return -1;
        }

        Request requestOf(int hand) {
            int row = waitRow(hand);
            if (row >= 0) {
                for (Request r : queues.get(row)) {
                    if (r.hand == hand) {
                        return r;
                    }
                }
            }
            return null;
        }

        boolean clash(int a, int b) {
            boolean peekWith = a == 1 && b != 3 || b == 1 && a != 3;
            return !peekWith;
        }

        boolean clashes(int row, Request r, int besides) {
            return locks.get(row).entrySet().stream()
                    .anyMatch(e -> e.getKey() != r.hand && e.getKey() != besides && clash(e.getValue(), r.mode));
        }

        void grant(int row, Request r) {
            queues.get(row).remove(r);
            locks.get(row).put(r.hand, r.mode);
            granted[r.hand]++;
        }

        int settle(int row) {
            int n = 0;
            while (!queues.get(row).isEmpty() && !clashes(row, queues.get(row).get(0), -1)) {
                grant(row, queues.get(row).get(0));
                n++;
            }
            return n;
        }

        TreeSet<Integer> direct(int hand) {
            TreeSet<Integer> found = new TreeSet<>();
            Request own = requestOf(hand);
            if (own != null) {
                int row = waitRow(hand);
                locks.get(row).forEach((other, mode) -> {
                    if (other != hand && clash(mode, own.mode)) {
                        found.add(other);
                    }
                });
                for (Request r : queues.get(row).subList(0, queues.get(row).indexOf(own))) {
                    found.add(r.hand);
                }
            }
            return found;
        }

        TreeSet<Integer> reach(int hand) {
            TreeSet<Integer> seen = new TreeSet<>();
            List<Integer> todo = new ArrayList<>(direct(hand));
            while (!todo.isEmpty()) {
                int next = todo.remove(0);
                if (seen.add(next)) {
                    todo.addAll(direct(next));
                }
            }
            return seen;
        }

        int work(int hand) {
            return locks.stream().mapToInt(l -> l.getOrDefault(hand, 0)).sum();
        }

        int ask(int hand, int row, int mode) {
            asked[hand]++;
            if (lock(hand, row) >= mode) {
                granted[hand]++;
                return 0;
            }
            List<Request> queue = queues.get(row);
            int place = queue.size();
            if (lock(hand, row) > 0) {
                for (place = queue.size(); place > 0 && lock(queue.get(place - 1).hand, row) == 0; place--) {
                    continue;
                }
            }
            queue.add(place, new Request(hand, mode));
            settle(row);
            while (reach(hand).contains(hand)) {
                int loser = -1;
                for (int other : reach(hand)) {
                    if (reach(other).contains(hand) && (loser < 0 || work(other) <= work(loser))) {
                        loser = other;
                    }
                }
                lose(loser);
            }
            return lock(hand, row) >= mode ? 0 : requestOf(hand) != null ? 1 : 2;
        }

        void lose(int hand) {
            lost[hand]++;
            TreeSet<Integer> rows = new TreeSet<>();
            for (int row = 0; row < 12; row++) {
                boolean touched = locks.get(row).remove(hand) != null;
                touched |= queues.get(row).removeIf(r -> r.hand == hand);
                if (touched) {
                    rows.add(row);
                }
            }
            rows.forEach(this::settle);
        }

        boolean canRelease(int hand, int row) {
            return lock(hand, row) > 0 && waitRow(hand) != row;
        }

        boolean canHandOn(int hand, int row, int other) {
            return canRelease(hand, row) && other != hand && waitRow(other) == row
                    && !clashes(row, requestOf(other), hand);
        }

        int release(int hand, int row) {
            locks.get(row).remove(hand);
            return settle(row);
        }

        int warmer(int row, int heat) {
            int greatest = locks.get(row).values().stream().max(Integer::compare).orElse(0);
            int next = greatest == 0 ? heat - settings[2] : heat + greatest * settings[1];
            return next < 0 ? 0 : next > 1000 ? 1000 : next;
        }

        int tick() {
            ticks++;
            for (int row = 0; row < 12; row++) {
                heat[row] = warmer(row, heat[row]);
            }
            int gone = 0;
            for (int row = 0; row < 12; row++) {
                if (heat[row] > settings[0] && !locks.get(row).isEmpty()) {
                    for (int hand : locks.get(row).keySet()) {
                        burnt[hand]++;
                        gone++;
                    }
                    locks.get(row).clear();
                    settle(row);
                }
            }
            return gone;
        }

        int burnsIn(int row) {
            int then = heat[row];
            for (int n = 1; n <= 300 && !locks.get(row).isEmpty(); n++) {
                then = warmer(row, then);
                if (then > settings[0]) {
                    return n;
                }
            }
            return -1;
        }

        int lockCount() {
            return locks.stream().mapToInt(TreeMap::size).sum();
        }
    }

    private static int mask(Iterable<Integer> hands) {
        int mask = 0;
        for (int hand : hands) {
            mask += 1 << hand;
        }
        return mask;
    }

    /** The face of the document, over the tables; an exception is one of the numbers above. */
    private static final class Model {
        Table t = new Table();
        List<Table> saved = new ArrayList<>();
        String buffer = "";

        boolean bad(int hand, int row) {
            return hand < 0 || hand > 7 || row < 0 || row > 11;
        }

        void save() {
            saved.add(t.copy());
            if (saved.size() > 6) {
                saved.remove(0);
            }
        }

        long ask(int hand, int row, int mode) {
            if (bad(hand, row)) {
                return INDEX;
            }
            if (mode < 1 || mode > 3) {
                return ARGUMENT;
            }
            if (t.requestOf(hand) != null) {
                return STATE;
            }
            save();
            return t.ask(hand, row, mode);
        }

        long release(int hand, int row) {
            if (bad(hand, row)) {
                return INDEX;
            }
            if (!t.canRelease(hand, row)) {
                return STATE;
            }
            save();
            return t.release(hand, row);
        }

        long giveUp(int hand) {
            if (bad(hand, 0)) {
                return INDEX;
            }
            int row = t.waitRow(hand);
            if (row < 0) {
                return STATE;
            }
            save();
            t.queues.get(row).remove(t.requestOf(hand));
            t.settle(row);
            return row;
        }

        long handOn(int hand, int row, int other) {
            if (bad(hand, row) || bad(other, 0)) {
                return INDEX;
            }
            if (!t.canHandOn(hand, row, other)) {
                return STATE;
            }
            save();
            t.locks.get(row).remove(hand);
            t.grant(row, t.requestOf(other));
            t.handedOn[row]++;
            t.settle(row);
            return t.lock(other, row);
        }

        long pass(int ticks) {
            if (ticks < 1 || ticks > 100) {
                return ARGUMENT;
            }
            save();
            int gone = 0;
            for (int n = 0; n < ticks; n++) {
                gone += t.tick();
            }
            return gone;
        }

        long cool(int row) {
            if (bad(0, row)) {
                return INDEX;
            }
            if (!t.locks.get(row).isEmpty()) {
                return STATE;
            }
            save();
            int before = t.heat[row];
            t.heat[row] = 0;
            return before;
        }

        long set(int setting, int value) {
            if (setting < 0 || setting > 2) {
                return INDEX;
            }
            if (value < new int[] {10, 0, 0}[setting] || value > new int[] {900, 20, 50}[setting]) {
                return ARGUMENT;
            }
            save();
            int before = t.settings[setting];
            t.settings[setting] = value;
            return before;
        }

        long append(int code) {
            if (code < 33 || code > 126) {
                return ARGUMENT;
            }
            if (buffer.length() == 60) {
                return STATE;
            }
            buffer += (char) code;
            return buffer.length();
        }

        long clearBuffer() {
            int before = buffer.length();
            buffer = "";
            return before;
        }

        long firstError() {
            String one = "[a-h]([0-9]|10|11)[psh-]";
            java.util.regex.Pattern row = java.util.regex.Pattern.compile(one + "(," + one + ")*");
            for (int n = 1; n <= buffer.length(); n++) {
                java.util.regex.Matcher m = row.matcher(buffer.substring(0, n));
                if (!m.matches() && !m.hitEnd()) {
                    return n - 1;
                }
            }
            return buffer.length();
        }

        long run() {
            if (!buffer.matches("[a-h]([0-9]|10|11)[psh-](,[a-h]([0-9]|10|11)[psh-])*")) {
                return ARGUMENT;
            }
            save();
            int done = 0;
            for (String one : buffer.split(",")) {
                int hand = "abcdefgh".indexOf(one.charAt(0));
                int row = Integer.parseInt(one.substring(1, one.length() - 1));
                int mode = "-psh".indexOf(one.charAt(one.length() - 1));
                if (mode == 0 ? !t.canRelease(hand, row) : t.requestOf(hand) != null) {
                    break;
                }
                if (mode == 0) {
                    t.release(hand, row);
                } else {
                    t.ask(hand, row, mode);
                }
                done++;
            }
            buffer = "";
            return done;
        }

        long undo() {
            if (saved.isEmpty()) {
                return STATE;
            }
            t = saved.remove(saved.size() - 1);
            return saved.size();
        }

        long lock(int hand, int row) {
            return bad(hand, row) ? INDEX : t.lock(hand, row);
        }

        long hand(int hand, int what) {
            if (bad(hand, 0)) {
                return INDEX;
            }
            return switch (what) {
                case 0 -> t.locks.stream().filter(l -> l.containsKey(hand)).count();
                case 1 -> t.work(hand);
                case 2 -> t.waitRow(hand);
                case 3 -> t.requestOf(hand) == null ? 0 : t.requestOf(hand).mode;
                case 4 -> mask(t.direct(hand));
                case 5 -> t.burnt[hand];
                case 6 -> t.lost[hand];
                case 7 -> t.granted[hand];
                case 8 -> t.asked[hand];
                default -> ARGUMENT;
            };
        }

        long row(int row, int what) {
            if (bad(0, row)) {
                return INDEX;
            }
            return switch (what) {
                case 0 -> t.heat[row];
                case 1 -> t.locks.get(row).values().stream().max(Integer::compare).orElse(0);
                case 2 -> mask(t.locks.get(row).keySet());
                case 3 -> t.queues.get(row).size();
                case 4 -> t.handedOn[row];
                case 5 -> t.queues.get(row).isEmpty() ? -1 : t.queues.get(row).get(0).hand;
                default -> ARGUMENT;
            };
        }

        long request(int row, int place, int what) {
            if (bad(0, row)) {
                return INDEX;
            }
            if (place < 0 || place > 7 || what < 0 || what > 1) {
                return ARGUMENT;
            }
            if (place >= t.queues.get(row).size()) {
                return -1;
            }
            Request r = t.queues.get(row).get(place);
            return what == 0 ? r.hand : r.mode;
        }

        long count(int what) {
            return switch (what) {
                case 0 -> t.lockCount();
                case 1 -> t.queues.stream().mapToInt(List::size).sum();
                case 2 -> t.ticks;
                case 3 -> Arrays.stream(t.burnt).sum();
                case 4 -> Arrays.stream(t.lost).sum();
                case 5 -> Arrays.stream(t.handedOn).sum();
                case 6 -> Arrays.stream(t.granted).sum();
                case 7 -> Arrays.stream(t.asked).sum();
                case 8 -> t.locks.stream().filter(l -> !l.isEmpty()).count();
                case 9 -> saved.size();
                default -> ARGUMENT;
            };
        }

        long setting(int setting) {
            return setting < 0 || setting > 2 ? INDEX : t.settings[setting];
        }

        long ifAsked(int hand, int row, int mode, int what) {
            if (bad(hand, row)) {
                return INDEX;
            }
            if (mode < 1 || mode > 3 || what < 0 || what > 2) {
                return ARGUMENT;
            }
            if (t.requestOf(hand) != null) {
                return -1;
            }
            Table then = t.copy();
            int answer = then.ask(hand, row, mode);
            int lost = Arrays.stream(then.lost).sum() - Arrays.stream(t.lost).sum();
            return what == 0 ? answer : what == 1 ? lost : then.lockCount();
        }

        long takers(int hand, int row) {
            if (bad(hand, row)) {
                return INDEX;
            }
            List<Integer> found = new ArrayList<>();
            for (int other = 0; other < 8; other++) {
                if (t.canHandOn(hand, row, other)) {
                    found.add(other);
                }
            }
            return mask(found);
        }

        long burnsIn(int row) {
            return bad(0, row) ? INDEX : t.burnsIn(row);
        }

        long waitsFor(int hand) {
            return bad(hand, 0) ? INDEX : mask(t.reach(hand));
        }

        long busiest() {
            int best = -1;
            long most = 0;
            for (int hand = 0; hand < 8; hand++) {
                long waiters = 0;
                for (int other = 0; other < 8; other++) {
                    waiters += t.reach(other).contains(hand) ? 1 : 0;
                }
                if (t.requestOf(hand) == null && waiters > most) {
                    best = hand;
                    most = waiters;
                }
            }
            return count(1) == 0 ? -1 : best;
        }

        long shareBits() {
            return Double.doubleToLongBits(count(7) == 0 ? 1.0 : (double) count(6) / count(7));
        }

        long digest() {
            List<Long> v = new ArrayList<>();
            for (int what = 0; what <= 9; what++) {
                v.add(count(what));
            }
            for (int setting : t.settings) {
                v.add((long) setting);
            }
            for (int hand = 0; hand < 8; hand++) {
                for (int what = 0; what <= 8; what++) {
                    v.add(hand(hand, what));
                }
                for (int row = 0; row < 12; row++) {
                    v.add(lock(hand, row));
                }
                v.add(waitsFor(hand));
            }
            for (int row = 0; row < 12; row++) {
                for (int what = 0; what <= 5; what++) {
                    v.add(row(row, what));
                }
                for (Request r : t.queues.get(row)) {
                    v.add((long) r.hand);
                    v.add((long) r.mode);
                }
                v.add(burnsIn(row));
                for (int what = 0; what <= 2; what++) {
                    v.add(ifAsked(0, row, 3, what));
                }
                v.add(takers(0, row));
            }
            v.add(busiest());
            v.add(shareBits());
            v.add((long) buffer.length());
            for (char c : buffer.toCharArray()) {
                v.add((long) c);
            }
            long hash = 2447;
            for (long value : v) {
                hash = 31 * hash + value;
            }
            return hash;
        }
    }

    private interface Call {
        long answer();
    }

    private static int wrong = 0;
    private static int calls;
    private static long seed;
    private static StringBuilder told;
    private static final TreeMap<String, Integer> seen = new TreeMap<>();

    /** A number 0 to bound - 1, the same in every run. */
    private static int pick(int bound) {
        seed = seed * 6364136223846793005L + 1442695040888963407L;
        return (int) ((seed >>> 33) % bound);
    }

    private static long answerOf(Call call) {
        try {
            return call.answer();
        } catch (IndexOutOfBoundsException e) {
            return e.getClass() == IndexOutOfBoundsException.class ? INDEX : -2;
        } catch (IllegalArgumentException e) {
            return e.getClass() == IllegalArgumentException.class ? ARGUMENT : -2;
        } catch (IllegalStateException e) {
            return STATE;
        }
    }

    private static boolean same(String what, Call got, long want) {
        long answer = answerOf(got);
        calls++;
        told.append(what).append(" = ").append(want).append('\n');
        String kind = what.substring(0, what.indexOf('('));
        boolean threw = want == INDEX || want == ARGUMENT || want == STATE;
        seen.merge(kind + (threw ? " throws " + (want >> 40) : ""), 1, Integer::sum);
        if (answer != want) {
            wrong++;
            System.out.println(told + "   answered " + answer);
            return false;
        }
        return true;
    }

    private static int oddOr(int number, int odds) {
        if (pick(odds) != 0) {
            return number;
        }
        return new int[] {-1, 8, 12, 4, 0, 101, Integer.MAX_VALUE, Integer.MIN_VALUE}[pick(8)];
    }

    private static String someText(int rows) {
        StringBuilder s = new StringBuilder();
        for (int n = pick(6); n >= 0; n--) {
            s.append((char) ('a' + pick(8))).append(pick(rows)).append("psh-".charAt(pick(4)));
            if (n > 0) {
                s.append(',');
            }
        }
        if (pick(4) == 0) {
            s.setCharAt(pick(s.length()), "a1p,-hsi0x2"
                    .charAt(pick(11)));
        }
        return pick(8) == 0 ? s.substring(0, pick(s.length() + 1)) : s.toString();
    }

    private static boolean texts(HotPanLocks x, Model m, int rows) {
        boolean fine = true;
        for (char c : someText(rows).toCharArray()) {
            int code = oddOr(c, 300);
            fine &= same("append(" + code + ")", () -> x.append(code), m.append(code));
        }
        fine &= same("firstError()", x::firstError, m.firstError());
        int then = pick(8);
        if (then < 6) {
            fine &= same("run()", x::run, m.run());
        }
        if (then >= 4) {
            fine &= same("clearBuffer()", x::clearBuffer, m.clearBuffer());
        }
        return fine;
    }

    private static boolean deed(HotPanLocks x, Model m, int rows) {
        int hand = oddOr(pick(8), 60);
        int row = oddOr(pick(rows), 60);
        int mode = oddOr(1 + pick(3), 60);
        int other = oddOr(pick(8), 60);
        int kind = pick(40);
        if (kind < 17) {
            return same("ask(" + hand + "," + row + "," + mode + ")", () -> x.ask(hand, row, mode), m.ask(hand, row, mode));
        } else if (kind < 22) {
            return same("release(" + hand + "," + row + ")", () -> x.release(hand, row), m.release(hand, row));
        } else if (kind < 24) {
            return same("giveUp(" + hand + ")", () -> x.giveUp(hand), m.giveUp(hand));
        } else if (kind < 29) {
            return anyHandOn(x, m, hand, row, other);
        } else if (kind < 32) {
            int ticks = oddOr(1 + pick(pick(4) == 0 ? 100 : 12), 30);
            return same("pass(" + ticks + ")", () -> x.pass(ticks), m.pass(ticks));
        } else if (kind < 33) {
            return same("cool(" + row + ")", () -> x.cool(row), m.cool(row));
        } else if (kind < 35) {
            int setting = oddOr(pick(3), 20);
            int value = oddOr(pick(4) == 0 ? pick(1000) : pick(60), 20);
            return same("set(" + setting + "," + value + ")", () -> x.set(setting, value), m.set(setting, value));
        } else if (kind < 37) {
            return texts(x, m, rows);
        }
        return same("undo()", x::undo, m.undo());
    }

    /** Hands on to a taker, where there is one, for others are seldom met. */
    private static boolean anyHandOn(HotPanLocks x, Model m, int hand, int row, int other) {
        int first = hand;
        int second = other;
        for (int n = 0; n < 8 && pick(5) != 0; n++) {
            long takers = m.takers(n, row);
            if (takers != 0 && takers < INDEX) {
                first = n;
                second = pick(2) == 0 ? Long.numberOfTrailingZeros(takers) : 63 - Long.numberOfLeadingZeros(takers);
            }
        }
        int from = first;
        int to = second;
        return same("handOn(" + from + "," + row + "," + to + ")", () -> x.handOn(from, row, to), m.handOn(from, row, to));
    }

    private static boolean look(HotPanLocks x, Model m, int rows) {
        int hand = oddOr(pick(8), 40);
        int row = oddOr(pick(rows), 40);
        int what = oddOr(pick(11) - 1, 40);
        int mode = oddOr(1 + pick(3), 40);
        int part = oddOr(pick(4) == 0 ? what : pick(3), 40);
        switch (pick(14)) {
            case 0:
                return same("lock(" + hand + "," + row + ")", () -> x.lock(hand, row), m.lock(hand, row));
            case 1:
                return same("hand(" + hand + "," + what + ")", () -> x.hand(hand, what), m.hand(hand, what));
            case 2:
                return same("row(" + row + "," + what + ")", () -> x.row(row, what), m.row(row, what));
            case 3:
                return same("request(" + row + "," + what + "," + part + ")", () -> x.request(row, what, part), m.request(row, what, part));
            case 4:
                return same("count(" + what + ")", () -> x.count(what), m.count(what));
            case 5:
                return same("setting(" + part + ")", () -> x.setting(part), m.setting(part));
            case 6:
                return same("takers(" + hand + "," + row + ")", () -> x.takers(hand, row), m.takers(hand, row));
            case 7:
                return same("burnsIn(" + row + ")", () -> x.burnsIn(row), m.burnsIn(row));
            case 8:
                return same("waitsFor(" + hand + ")", () -> x.waitsFor(hand), m.waitsFor(hand));
            case 9:
                return same("busiest()", x::busiest, m.busiest());
            case 10:
                return same("grantedShare()", () -> Double.doubleToLongBits(x.grantedShare()), m.shareBits());
            default:
                return same("ifAsked(" + hand + "," + row + "," + mode + "," + part + ")",
                        () -> x.ifAsked(hand, row, mode, part), m.ifAsked(hand, row, mode, part));
        }
    }

    private static void oneRun(int number) {
        seed = 977L * number + 5;
        told = new StringBuilder("run " + number + "\n");
        HotPanLocks x = new HotPanLocks();
        Model m = new Model();
        int rows = new int[] {1, 2, 3, 4, 6, 12}[pick(6)];
        int losses = 0;
        calls = 0;
        // A step makes some forty calls at most, and what an object answers after 512 of them is free.
        for (int n = 0; n < 100 && calls < 470; n++) {
            if (!deed(x, m, rows) || !look(x, m, rows) || !same("digest()", x::digest, m.digest())) {
                return;
            }
            losses = Math.max(losses, Arrays.stream(m.t.lost).sum());
        }
        seen.merge("hands that lost", losses, Integer::sum);
    }

    public static void main(String[] args) {
        int runs = args.length > 0 ? Integer.parseInt(args[0]) : 600;
        for (int number = 0; number < runs && wrong < 3; number++) {
            oneRun(number);
        }
        System.out.println(args.length > 0 ? seen.toString() : seen.size() + " kinds of answers in " + runs + " runs");
        System.out.println(wrong == 0 ? "all answers are as the model's" : wrong + " runs differ from the model");
        if (wrong != 0) {
            System.exit(1);
        }
    }
}
