/** Objects at an edge of the document, for the tests of edges. */
final class Edges {
    private Edges() {
    }

    /** Six parts, all DONE, that sent ten messages each by turns: part i to part 5 - i the values 10 * i + step. */
    static HouseThreads2 withSixtyMessages() {
        HouseThreads2 x = Due.withParts(0, 1, 2, 3, 4, 5);
        for (int part = 0; part < 6; part++) {
            for (int i = 0; i < 10; i++) {
                x.step(part, Due.SEND, 5 - part, 10 * part + i);
            }
        }
        x.run(10);
        return x;
    }

    /** Part i holds place i by a change by 1, and its next step is to change the next one's place by 10. */
    static HouseThreads2 ring(int... ranks) {
        HouseThreads2 x = Due.withParts(ranks);
        int n = ranks.length;
        for (int i = 0; i < n; i++) {
            x.step(i, Due.CHANGE, i, 1);
            x.step(i, Due.CHANGE, (i + 1) % n, 10);
            x.turn(i);
        }
        return x;
    }

    /** Only one part can do a step in each round: part 5 its ten, then part 4, .. : sixty rounds in all. */
    static HouseThreads2 oneStepARound() {
        HouseThreads2 x = Due.withParts(1, 1, 1, 1, 1, 1);
        for (int part = 5; part >= 0; part--) {
            if (part < 5) {
                x.step(part, Due.HEAR, part, 0);
            }
            for (int i = x.told(part, 2); i < 9; i++) {
                x.step(part, Due.CHANGE, part, 1);
            }
            x.step(part, Due.SEND, part == 0 ? 0 : part - 1, 0);
        }
        return x;
    }

    /**
     * Parts 0 ENDED, 1 READY, 2 WAITING for place 3, 3 LISTENING and holding it, 4 DONE, 5 FAILED, each with a full
     * act; the ones that wait and listen have done no step.
     */
    static HouseThreads2 inAllStates() {
        HouseThreads2 x = new HouseThreads2();
        for (int part = 0; part < 6; part++) {
            x.part(part);
            int kind = part == 3 ? Due.HEAR : Due.CHANGE;
            for (int i = 0; i < 10; i++) {
                x.step(part, kind, part == 2 ? 3 : part, kind == Due.HEAR ? 0 : 1);
            }
            if (part == 0) {
                x.close();
            }
        }
        x.turn(3);
        x.turn(2);
        for (int i = 0; i < 10; i++) {
            x.turn(4);
        }
        x.fails(5, 0, true);
        x.turn(5);
        return x;
    }

    static void message(HouseThreads2 x, int message, int... due) {
        for (int what = 0; what < due.length; what++) {
            Due.is("message(" + message + ", " + what + ")", x.message(message, what), due[what]);
        }
    }
}
