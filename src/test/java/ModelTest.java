import java.util.ArrayList;
import java.util.Arrays;
import java.util.List;
import java.util.NoSuchElementException;
import java.util.Random;

/** Mixed calls, wrong ones too, answered by the class and by a second writing of the document: both must agree. */
public final class ModelTest {
    private static final int RUNS = 1500;
    private static final int CALLS = 512;
    private static final int[] EDGES = {Integer.MIN_VALUE, -100, -99, -1, 0, 1, 2, 7, 8, 9, 10, 50, 51, 60, 61, 99, 100,
        399, 400, Integer.MAX_VALUE};

    private static final int CLOSE = 9;

    /** Turns come oftenest: without them little happens. */
    private static final int[] METHODS = {0, 1, 2, 3, 4, 4, 4, 4, 4, 4, 5, 6, 7, 8, 8, 9, 10, 11, 12, 13, 14};

    private static final int[] KINDS = {Due.CHANGE, Due.CHANGE, Due.CHANGE, Due.CHANGE, Due.CHANGE, Due.SEND, Due.SEND,
        Due.HEAR};

    /** One door to all calls, so that the class and the model can be asked by the same numbers. */
    interface House {
        int ask(int method, int a, int b, int c, int d);
    }

    public static void main(String[] args) {
        long[] seen = new long[9];
        for (int seed = 0; seed < RUNS; seed++) {
            oneRun(seed, seen);
        }
        // Runs that seldom come to a ring or a failure would prove little.
        String[] what = {"READY", "WAITING", "LISTENING", "DONE", "FAILED", "aborts", "undoings", "heard", "withdrawn"};
        for (int i = 0; i < seen.length; i++) {
            Due.is("enough of " + what[i] + " (" + seen[i] + ")", seen[i] >= 300 ? 1 : 0, 1);
        }
        Due.end();
    }

    private static void oneRun(int seed, long[] seen) {
        Random random = new Random(seed);
        HouseThreads2 real = new HouseThreads2();
        Model model = new Model();
        List<String> calls = new ArrayList<>();
        int building = random.nextInt(120);
        int wrongs = random.nextInt(4) * 5;
        int places = 1 + random.nextInt(8);
        // Some runs end early, so that the last call, a close, finds acts with messages going on too.
        int length = random.nextBoolean() ? CALLS : 1 + random.nextInt(CALLS);
        for (int n = 0; n < length; n++) {
            boolean last = n == length - 1;
            int method = n < building && random.nextInt(4) != 0
                    ? random.nextInt(2) : METHODS[random.nextInt(METHODS.length)];
            int[] v = new int[4];
            for (int i = 0; i < 4; i++) {
                v[i] = argument(random, method, i, v, model, places);
                if (random.nextInt(200) < wrongs) {
                    v[i] = EDGES[random.nextInt(EDGES.length)];
                }
            }
            if (last) {
                method = CLOSE;
                v[0] = 0;
            }
            calls.add(method + Arrays.toString(v));
            String got = answer((m, a, b, c, d) -> ask(real, m, a, b, c, d), method, v);
            String want = answer(model::ask, method, v);
            if (!got.equals(want) || !whole(real).equals(whole(model))) {
                System.out.println("seed " + seed + ": " + calls);
                System.out.println("answered " + got + ", due is " + want);
                System.out.println("class " + whole(real));
                System.out.println("model " + whole(model));
                System.exit(1);
            }
            if (method == 4 && got.length() == 1) {
                seen[Integer.parseInt(got)]++;
            }
        }
        seen[5] += real.count(3);
        for (int i = 0; i < real.count(0); i++) {
            seen[6] += real.told(i, 6);
        }
        for (int i = 1; i <= real.count(1); i++) {
            seen[7] += real.message(i, 0) == Due.HEARD ? 1 : 0;
            seen[8] += real.message(i, 0) == Due.WITHDRAWN ? 1 : 0;
        }
    }

    private static int argument(Random random, int method, int i, int[] before, Model model, int places) {
        int parts = Math.max(1, model.parts.size());
        switch (method * 10 + i) {
            case 0:
                return random.nextInt(10);
            case 10: case 20: case 40: case 70: case 80: case 130:
                return random.nextInt(parts);
            case 11:
                // Mostly changes: parts that listen for nothing seldom come into a ring.
                return KINDS[random.nextInt(KINDS.length)];
            case 12:
                return before[1] == 1 ? random.nextInt(parts) : random.nextInt(places);
            case 13:
                return before[1] == 2 ? 0 : random.nextInt(199) - 99;
            case 21:
                return random.nextInt(10);
            case 22: case 30:
                return random.nextInt(2);
            case 50:
                return random.nextInt(4);
            case 60: case 120:
                return 1 + random.nextInt(Math.max(1, model.messages.size()));
            case 90:
                // Closing ends most of what may happen, so it is made rare: other values ask for run(1).
                return random.nextInt(100);
            case 100:
                return random.nextInt(Math.max(1, model.log.size()));
            case 110:
                return random.nextInt(8);
            case 111:
                return random.nextInt(2);
            case 121:
                return random.nextInt(4);
            case 131:
                return random.nextInt(7);
            case 140:
                return random.nextInt(7) - 1;
            default:
                return 0;
        }
    }

    private static int ask(HouseThreads2 x, int method, int a, int b, int c, int d) {
        switch (method) {
            case 0: return x.part(a);
            case 1: return x.step(a, b, c, d);
            case 2: x.fails(a, b, c == 1); return 0;
            case 3: x.losing(a == 1); return 0;
            case 4: return x.turn(a);
            case 5: return x.run(a);
            case 6: return x.again(a);
            case 7: return x.interrupt(a);
            case 8: x.restart(a); return 0;
            case 9: return a == 0 ? x.close() : x.run(1);
            case 10: return x.log(a);
            case 11: return x.place(a, b);
            case 12: return x.message(a, b);
            case 13: return x.told(a, b);
            default: return x.count(a);
        }
    }

    private static String answer(House house, int method, int[] v) {
        try {
            return Integer.toString(house.ask(method, v[0], v[1], v[2], v[3]));
        } catch (RuntimeException e) {
            return e.getClass().getName();
        }
    }

    private static String whole(HouseThreads2 x) {
        return whole((m, a, b, c, d) -> ask(x, m, a, b, c, d));
    }

    private static String whole(Model m) {
        return whole(m::ask);
    }

    private static String whole(House h) {
        StringBuilder s = new StringBuilder();
        for (int what = 0; what <= 5; what++) {
            s.append(h.ask(14, what, 0, 0, 0)).append(' ');
        }
        for (int part = 0; part < h.ask(14, 0, 0, 0, 0); part++) {
            s.append("part");
            for (int what = 0; what <= 6; what++) {
                s.append(' ').append(h.ask(13, part, what, 0, 0));
            }
        }
        for (int place = 0; place < 8; place++) {
            s.append(" place ").append(h.ask(11, place, 0, 0, 0)).append(' ').append(h.ask(11, place, 1, 0, 0));
        }
        for (int m = 1; m <= h.ask(14, 1, 0, 0, 0); m++) {
            s.append(" m ").append(h.ask(12, m, 0, 0, 0)).append(h.ask(12, m, 1, 0, 0))
                    .append(h.ask(12, m, 2, 0, 0)).append(',').append(h.ask(12, m, 3, 0, 0));
        }
        return s.toString();
    }

    static final class Message {
        int state, from, to, value;
    }

    /** What a step did, kept as a stack: undoing pops it. */
    static final class Deed {
        int place = -1, added;
        Message sent, heard;
    }

    static final class Part {
        int rank, state, undone;
        List<int[]> steps = new ArrayList<>();
        List<Boolean> failing = new ArrayList<>();
        List<Deed> deeds = new ArrayList<>();
        boolean[] holds = new boolean[8];
        int waitsFor = -1;
        int doneAt;

        int at() {
            return state == Due.DONE ? doneAt : deeds.size();
        }
    }

    /** The document once more, with lists and objects where the class has rows of numbers. */
    static final class Model implements House {
        final List<Part> parts = new ArrayList<>();
        final List<Message> messages = new ArrayList<>();
        final List<Integer> log = new ArrayList<>();
        final int[] values = new int[8];
        boolean losing;
        int aborted;

        public int ask(int method, int a, int b, int c, int d) {
            boolean ofPart = method == 1 || method == 2 || method == 4 || method == 7 || method == 8 || method == 13;
            boolean ofMessage = method == 6 || method == 12;
            if (ofPart && (a < 0 || a >= parts.size()) || ofMessage && (a < 1 || a > messages.size())) {
                throw new NoSuchElementException();
            }
            if (!inRange(method, a, b, c, d)) {
                throw new IllegalArgumentException();
            }
            if (!possibleNow(method, a)) {
                throw new IllegalStateException();
            }
            if (method == 0 && parts.size() == 6 || method == 1 && parts.get(a).steps.size() == 10) {
                throw new UnsupportedOperationException();
            }
            return carryOut(method, a, b, c, d);
        }

        private boolean inRange(int method, int a, int b, int c, int d) {
            switch (method) {
                case 0: return 0 <= a && a <= 9;
                case 1:
                    if (b < 0 || b > 2 || c < 0 || c >= (b == 1 ? parts.size() : 8)) {
                        return false;
                    }
                    return b == 2 ? d == 0 : -99 <= d && d <= 99;
                case 2: return 0 <= b && b < parts.get(a).steps.size();
                case 5: return 0 <= a && a <= 50;
                case 10: return 0 <= a && a < log.size() && a < 400;
                case 11: return 0 <= a && a < 8 && (b == 0 || b == 1);
                case 12: return 0 <= b && b <= 3;
                case 13: return 0 <= b && b <= 6;
                default: return true;
            }
        }

        private boolean possibleNow(int method, int a) {
            switch (method) {
                case 1: return parts.get(a).state == Due.READY && parts.get(a).at() == 0;
                case 4: return parts.get(a).state <= Due.LISTENING;
                case 6: return messages.get(a - 1).state == Due.LOST;
                case 7: return parts.get(a).state == Due.WAITING || parts.get(a).state == Due.LISTENING;
                case 8: return parts.get(a).state == Due.DONE || parts.get(a).state == Due.FAILED;
                default: return true;
            }
        }

        private int carryOut(int method, int a, int b, int c, int d) {
            switch (method) {
                case 0:
                    parts.add(new Part());
                    parts.get(parts.size() - 1).rank = a;
                    return parts.size() - 1;
                case 1:
                    parts.get(a).steps.add(new int[] {b, c, d});
                    parts.get(a).failing.add(false);
                    return parts.get(a).steps.size();
                case 2: parts.get(a).failing.set(b, c == 1); return 0;
                case 3: losing = a == 1; return 0;
                case 4: have(parts.get(a)); return parts.get(a).state;
                case 5: return rounds(a);
                case 6: messages.get(a - 1).state = Due.ON_ITS_WAY; return messages.get(a - 1).to;
                case 7: return undo(parts.get(a), Due.READY);
                case 8: parts.get(a).state = Due.READY; return 0;
                case 9: return a == 0 ? end() : rounds(1);
                case 10: return log.get(a);
                case 11: return b == 0 ? values[a] : holder(a);
                case 12:
                    Message m = messages.get(a - 1);
                    return new int[] {m.state, m.from, m.to, m.value}[b];
                case 13: return tell(parts.get(a), b);
                default: return tally(a);
            }
        }

        private int tell(Part p, int what) {
            int held = 0;
            for (boolean h : p.holds) {
                held += h ? 1 : 0;
            }
            return new int[] {p.state, p.rank, p.steps.size(), p.at(), p.waitsFor, held, p.undone}[what];
        }

        private int tally(int what) {
            if (what == 0) {
                return parts.size();
            } else if (what == 1) {
                return messages.size();
            } else if (what == 2) {
                return log.size();
            } else if (what == 3) {
                return aborted;
            } else if (what == 4) {
                return (int) parts.stream().filter(p -> p.state == Due.DONE).count();
            } else if (what == 5) {
                return (int) messages.stream().filter(m -> m.state == Due.ON_ITS_WAY).count();
            }
            return -1;
        }

        private int holder(int place) {
            for (int i = 0; i < parts.size(); i++) {
                if (parts.get(i).holds[place]) {
                    return i;
                }
            }
            return -1;
        }

        private int rounds(int n) {
            int before = log.size();
            for (int i = 0; i < n; i++) {
                for (Part p : parts) {
                    if (p.state <= Due.LISTENING) {
                        have(p);
                    }
                }
            }
            return log.size() - before;
        }

        private int end() {
            int n = 0;
            for (Part p : parts) {
                if (p.state != Due.DONE && p.state != Due.ENDED) {
                    undo(p, Due.ENDED);
                    n++;
                }
            }
            return n;
        }

        private void have(Part p) {
            p.waitsFor = -1;
            int number = parts.indexOf(p);
            int at = p.deeds.size();
            if (p.steps.isEmpty()) {
                p.state = Due.DONE;
                p.doneAt = 0;
                return;
            }
            if (p.failing.set(at, false)) {
                undo(p, Due.FAILED);
                return;
            }
            int[] step = p.steps.get(at);
            Deed deed = new Deed();
            if (step[0] != Due.SEND) {
                int holder = holder(step[1]);
                if (holder >= 0 && holder != number) {
                    p.state = Due.WAITING;
                    p.waitsFor = step[1];
                    lookForRing(number);
                    return;
                }
                p.holds[step[1]] = true;
                deed.place = step[1];
                deed.added = step[2];
            } else if (messages.size() == 60) {
                undo(p, Due.FAILED);
                return;
            } else {
                deed.sent = new Message();
                deed.sent.state = losing ? Due.LOST : Due.ON_ITS_WAY;
                deed.sent.from = number;
                deed.sent.to = step[1];
                deed.sent.value = step[2];
                messages.add(deed.sent);
            }
            if (step[0] == Due.HEAR) {
                deed.heard = messages.stream().filter(m -> m.to == number && m.state == Due.ON_ITS_WAY)
                        .findFirst().orElse(null);
                if (deed.heard == null) {
                    p.state = Due.LISTENING;
                    return;
                }
                deed.heard.state = Due.HEARD;
                deed.added = deed.heard.value;
            }
            if (deed.place >= 0) {
                values[deed.place] += deed.added;
            }
            p.deeds.add(deed);
            log.add(100 * number + at);
            p.state = Due.READY;
            if (p.deeds.size() == p.steps.size()) {
                p.state = Due.DONE;
                p.doneAt = p.deeds.size();
                p.deeds.clear();
                Arrays.fill(p.holds, false);
            }
        }

        private void lookForRing(int first) {
            List<Integer> ring = new ArrayList<>();
            int i = first;
            while (i >= 0 && parts.get(i).state == Due.WAITING && !ring.contains(i)) {
                ring.add(i);
                i = holder(parts.get(i).waitsFor);
            }
            if (i != first) {
                return;
            }
            ring.sort((x, y) -> parts.get(x).rank != parts.get(y).rank
                    ? parts.get(x).rank - parts.get(y).rank : y - x);
            undo(parts.get(ring.get(0)), Due.READY);
            aborted++;
        }

        private int undo(Part p, int stateThen) {
            int n = p.deeds.size();
            while (!p.deeds.isEmpty()) {
                Deed deed = p.deeds.remove(p.deeds.size() - 1);
                if (deed.place >= 0) {
                    values[deed.place] -= deed.added;
                }
                if (deed.heard != null) {
                    deed.heard.state = Due.ON_ITS_WAY;
                }
                if (deed.sent != null && deed.sent.state == Due.ON_ITS_WAY) {
                    deed.sent.state = Due.WITHDRAWN;
                }
            }
            Arrays.fill(p.holds, false);
            p.waitsFor = -1;
            p.state = stateThen;
            p.undone++;
            return n;
        }
    }
}
