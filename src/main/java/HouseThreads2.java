import java.util.NoSuchElementException;

/** Acts of a house's parts, done step by step in turns under one hand. */
public final class HouseThreads2 {
    private static final int MAX_PLACES = 8;
    private static final int MAX_PARTS = 6;
    private static final int MAX_STEPS = 10;
    private static final int MAX_MESSAGES = 60;
    private static final int MAX_RANK = 9;
    private static final int MAX_AMOUNT = 99;
    private static final int MAX_ROUNDS = 50;
    private static final int MAX_LOGGED = 400;
    private static final int LOG_PART_FACTOR = 100;

    private static final int NONE = -1;

    private static final int CHANGE = 0;
    private static final int SEND = 1;
    private static final int HEAR = 2;

    private static final int READY = 0;
    private static final int WAITING = 1;
    private static final int LISTENING = 2;
    private static final int DONE = 3;
    private static final int FAILED = 4;
    private static final int ENDED = 5;

    private final int[] placeValue = new int[MAX_PLACES];
    private final int[] placeHolder = new int[MAX_PLACES];
    private final Part[] parts = new Part[MAX_PARTS];
    private final Post post = new Post();
    private final int[] logged = new int[MAX_LOGGED];
    private int partCount;
    private int loggedCount;
    private int stepsDone;
    private int abortedCount;
    private boolean messagesAreLost;

    public HouseThreads2() {
        for (int i = 0; i < MAX_PLACES; i++) {
            placeHolder[i] = NONE;
        }
        // All parts are made here, so that no entry of the row is ever null.
        for (int i = 0; i < MAX_PARTS; i++) {
            parts[i] = new Part(i);
        }
    }

    public int part(int rank) throws IllegalArgumentException, UnsupportedOperationException {
        if (rank < 0 || rank > MAX_RANK) {
            throw new IllegalArgumentException("a rank is 0 to 9");
        }
        if (partCount >= MAX_PARTS) {
            throw new UnsupportedOperationException("no room for another part");
        }
        parts[partCount].rank = rank;
        partCount++;
        return partCount - 1;
    }

    public int step(int part, int kind, int a, int b)
            throws NoSuchElementException, IllegalArgumentException, IllegalStateException,
            UnsupportedOperationException {
        Part p = existingPart(part);
        if (!isStep(kind, a, b)) {
            throw new IllegalArgumentException("no such kind of step, or its numbers are out of range");
        }
        if (p.at != 0 || p.state != READY) {
            throw new IllegalStateException("the part is not ready at the start of its act");
        }
        if (!p.append(kind, a, b)) {
            throw new UnsupportedOperationException("no room for another step");
        }
        return p.length;
    }

    public void fails(int part, int i, boolean on) throws NoSuchElementException, IllegalArgumentException {
        Part p = existingPart(part);
        if (i < 0 || i >= p.length) {
            throw new IllegalArgumentException("the act has no such step");
        }
        p.stepFails[i] = on;
    }

    public void losing(boolean on) {
        messagesAreLost = on;
    }

    public int turn(int part) throws NoSuchElementException, IllegalStateException {
        Part p = existingPart(part);
        if (!p.mayHaveTurn()) {
            throw new IllegalStateException("the part is done, failed or ended");
        }
        takeTurn(p);
        return p.state;
    }

    public int run(int rounds) throws IllegalArgumentException {
        if (rounds < 0 || rounds > MAX_ROUNDS) {
            throw new IllegalArgumentException("rounds are 0 to 50");
        }
        int before = stepsDone;
        for (int round = 0; round < rounds; round++) {
            for (int i = 0; i < partCount; i++) {
                if (parts[i].mayHaveTurn()) {
                    takeTurn(parts[i]);
                }
            }
        }
        return stepsDone - before;
    }

    public int again(int message) throws NoSuchElementException, IllegalStateException {
        checkMessage(message);
        if (post.state[message] != Post.LOST) {
            throw new IllegalStateException("the message is not lost");
        }
        post.state[message] = Post.ON_ITS_WAY;
        return post.to[message];
    }

    public int interrupt(int part) throws NoSuchElementException, IllegalStateException {
        Part p = existingPart(part);
        if (p.state != WAITING && p.state != LISTENING) {
            throw new IllegalStateException("the part neither waits nor listens");
        }
        return undo(p, READY);
    }

    public void restart(int part) throws NoSuchElementException, IllegalStateException {
        Part p = existingPart(part);
        if (p.state != DONE && p.state != FAILED) {
            throw new IllegalStateException("the part is neither done nor failed");
        }
        p.state = READY;
        p.at = 0;
    }

    public int close() {
        int ended = 0;
        for (int i = 0; i < partCount; i++) {
            Part p = parts[i];
            if (p.state != DONE && p.state != ENDED) {
                undo(p, ENDED);
                ended++;
            }
        }
        return ended;
    }

    public int log(int i) throws IllegalArgumentException {
        if (i < 0 || i >= loggedCount) {
            throw new IllegalArgumentException("no such step is told of");
        }
        return logged[i];
    }

    public int place(int place, int what) throws IllegalArgumentException {
        if (!isPlace(place) || what < 0 || what > 1) {
            throw new IllegalArgumentException("a place is 0 to 7, what is 0 or 1");
        }
        return what == 0 ? placeValue[place] : placeHolder[place];
    }

    public int message(int message, int what) throws NoSuchElementException, IllegalArgumentException {
        checkMessage(message);
        switch (what) {
            case 0:
                return post.state[message];
            case 1:
                return post.from[message];
            case 2:
                return post.to[message];
            case 3:
                return post.value[message];
            default:
                throw new IllegalArgumentException("what is 0 to 3");
        }
    }

    public int told(int part, int what) throws NoSuchElementException, IllegalArgumentException {
        Part p = existingPart(part);
        switch (what) {
            case 0:
                return p.state;
            case 1:
                return p.rank;
            case 2:
                return p.length;
            case 3:
                return p.at;
            case 4:
                return p.awaitedPlace();
            case 5:
                return heldPlaces(p);
            case 6:
                return p.timesUndone;
            default:
                throw new IllegalArgumentException("what is 0 to 6");
        }
    }

    public int count(int what) {
        switch (what) {
            case 0:
                return partCount;
            case 1:
                return post.sent;
            case 2:
                return stepsDone;
            case 3:
                return abortedCount;
            case 4:
                return doneParts();
            case 5:
                return post.onTheirWay();
            default:
                return -1;
        }
    }

    private Part existingPart(int part) {
        if (!isPart(part)) {
            throw new NoSuchElementException("no such part");
        }
        return parts[part];
    }

    private void checkMessage(int message) {
        if (message < 1 || message > post.sent) {
            throw new NoSuchElementException("no such message");
        }
    }

    private boolean isPart(int part) {
        return part >= 0 && part < partCount;
    }

    private static boolean isPlace(int place) {
        return place >= 0 && place < MAX_PLACES;
    }

    private boolean isStep(int kind, int a, int b) {
        switch (kind) {
            case CHANGE:
                return isPlace(a) && isAmount(b);
            case SEND:
                return isPart(a) && isAmount(b);
            case HEAR:
                return isPlace(a) && b == 0;
            default:
                return false;
        }
    }

    private static boolean isAmount(int b) {
        return b >= -MAX_AMOUNT && b <= MAX_AMOUNT;
    }

    private void takeTurn(Part p) {
        // Only an act without steps can be at its end before it is done.
        if (p.at >= p.length) {
            finish(p);
            return;
        }
        if (p.stepFails[p.at]) {
            p.stepFails[p.at] = false;
            undo(p, FAILED);
            return;
        }
        switch (p.stepKind[p.at]) {
            case CHANGE:
                tryChange(p);
                break;
            case SEND:
                trySend(p);
                break;
            default:
                tryHear(p);
                break;
        }
    }

    private void tryChange(Part p) {
        int place = p.stepA[p.at];
        if (getsPlace(p, place)) {
            placeValue[place] += p.stepB[p.at];
            stepIsDone(p);
        }
    }

    private void trySend(Part p) {
        int message = post.add(p.number, p.stepA[p.at], p.stepB[p.at], messagesAreLost);
        if (message == NONE) {
            undo(p, FAILED);
            return;
        }
        p.stepMessage[p.at] = message;
        stepIsDone(p);
    }

    private void tryHear(Part p) {
        int place = p.stepA[p.at];
        if (!getsPlace(p, place)) {
            return;
        }
        int message = post.firstOnItsWayTo(p.number);
        if (message == NONE) {
            p.state = LISTENING;
            return;
        }
        post.state[message] = Post.HEARD;
        p.stepMessage[p.at] = message;
        placeValue[place] += post.value[message];
        stepIsDone(p);
    }

    private boolean getsPlace(Part p, int place) {
        int holder = placeHolder[place];
        if (holder != NONE && holder != p.number) {
            p.state = WAITING;
            breakRing(p);
            return false;
        }
        placeHolder[place] = p.number;
        return true;
    }

    private void stepIsDone(Part p) {
        if (loggedCount < MAX_LOGGED) {
            logged[loggedCount] = LOG_PART_FACTOR * p.number + p.at;
            loggedCount++;
        }
        stepsDone++;
        p.at++;
        if (p.at < p.length) {
            p.state = READY;
        } else {
            finish(p);
        }
    }

    private void finish(Part p) {
        p.state = DONE;
        freePlaces(p);
    }

    private void breakRing(Part first) {
        Part weakest = first;
        Part p = first;
        // A ring has no more members than there are parts, so a longer way never comes back.
        for (int i = 0; i < MAX_PARTS; i++) {
            int next = partInTheWayOf(p);
            if (next == NONE) {
                return;
            }
            if (next == first.number) {
                undo(weakest, READY);
                abortedCount++;
                return;
            }
            p = parts[next];
            if (p.yieldsBefore(weakest)) {
                weakest = p;
            }
        }
    }

    private int partInTheWayOf(Part p) {
        int place = p.awaitedPlace();
        return place == NONE ? NONE : placeHolder[place];
    }

    private int undo(Part p, int stateThen) {
        int steps = p.at;
        // Backward, so that a message that a part sent to itself and heard is withdrawn as well.
        for (int i = steps - 1; i >= 0; i--) {
            takeBack(p, i);
        }
        freePlaces(p);
        p.at = 0;
        p.timesUndone++;
        p.state = stateThen;
        return steps;
    }

    private void takeBack(Part p, int i) {
        int message = p.stepMessage[i];
        switch (p.stepKind[i]) {
            case CHANGE:
                placeValue[p.stepA[i]] -= p.stepB[i];
                break;
            case SEND:
                if (post.state[message] == Post.ON_ITS_WAY) {
                    post.state[message] = Post.WITHDRAWN;
                }
                break;
            default:
                placeValue[p.stepA[i]] -= post.value[message];
                post.state[message] = Post.ON_ITS_WAY;
                break;
        }
    }

    private void freePlaces(Part p) {
        for (int i = 0; i < MAX_PLACES; i++) {
            if (placeHolder[i] == p.number) {
                placeHolder[i] = NONE;
            }
        }
    }

    private int heldPlaces(Part p) {
        int held = 0;
        for (int i = 0; i < MAX_PLACES; i++) {
            if (placeHolder[i] == p.number) {
                held++;
            }
        }
        return held;
    }

    private int doneParts() {
        int done = 0;
        for (int i = 0; i < partCount; i++) {
            if (parts[i].state == DONE) {
                done++;
            }
        }
        return done;
    }

    /** A part and its act, whose rows are made once for the longest act there may be. */
    private static final class Part {
        final int number;
        int rank;
        int state = READY;
        int at;
        int length;
        int timesUndone;
        final int[] stepKind = new int[MAX_STEPS];
        final int[] stepA = new int[MAX_STEPS];
        final int[] stepB = new int[MAX_STEPS];
        final boolean[] stepFails = new boolean[MAX_STEPS];
        // The message that the step sent or heard: undoing must find that very one.
        final int[] stepMessage = new int[MAX_STEPS];

        Part(int number) {
            this.number = number;
        }

        boolean append(int kind, int a, int b) {
            if (length >= MAX_STEPS) {
                return false;
            }
            stepKind[length] = kind;
            stepA[length] = a;
            stepB[length] = b;
            length++;
            return true;
        }

        boolean mayHaveTurn() {
            return state == READY || state == WAITING || state == LISTENING;
        }

        int awaitedPlace() {
            return state == WAITING && at < length ? stepA[at] : NONE;
        }

        boolean yieldsBefore(Part other) {
            return rank < other.rank || (rank == other.rank && number > other.number);
        }
    }

    /** The messages; they count from 1, so entry 0 of each row stays unused. */
    private static final class Post {
        static final int ON_ITS_WAY = 0;
        static final int HEARD = 1;
        static final int LOST = 2;
        static final int WITHDRAWN = 3;

        final int[] state = new int[MAX_MESSAGES + 1];
        final int[] from = new int[MAX_MESSAGES + 1];
        final int[] to = new int[MAX_MESSAGES + 1];
        final int[] value = new int[MAX_MESSAGES + 1];
        int sent;

        int add(int sender, int receiver, int content, boolean lost) {
            if (sent >= MAX_MESSAGES) {
                return NONE;
            }
            sent++;
            from[sent] = sender;
            to[sent] = receiver;
            value[sent] = content;
            state[sent] = lost ? LOST : ON_ITS_WAY;
            return sent;
        }

        int firstOnItsWayTo(int part) {
            for (int i = 1; i <= sent; i++) {
                if (to[i] == part && state[i] == ON_ITS_WAY) {
                    return i;
                }
            }
            return NONE;
        }

        int onTheirWay() {
            int n = 0;
            for (int i = 1; i <= sent; i++) {
                if (state[i] == ON_ITS_WAY) {
                    n++;
                }
            }
            return n;
        }
    }
}
