/** The rings of waits (Terms; promises 6, 7 and 16). */
public final class RingsTest {
    public static void main(String[] args) {
        theLeastRankIsAborted();
        itMayBeTheOneWhoseTurnItWas();
        ofEqualRanksTheGreatestNumber();
        onlyMembersOfTheRing();
        chainsAreNoRings();
        aListenerBreaksTheChain();
        aNewHolderClosesTheRing();
        aHearMayWaitInARing();
        aRingInARun();
        aRingAgain();
        Due.end();
    }

    /** Part i changes place i by 1, then the next one's place by 10: a ring once all have had two turns. */
    private static HouseThreads2 ring(int... ranks) {
        HouseThreads2 x = Due.withParts(ranks);
        int n = ranks.length;
        for (int i = 0; i < n; i++) {
            x.step(i, Due.CHANGE, i, 1);
            x.step(i, Due.CHANGE, (i + 1) % n, 10);
        }
        for (int i = 0; i < n; i++) {
            x.turn(i);
        }
        return x;
    }

    private static void theLeastRankIsAborted() {
        HouseThreads2 x = ring(5, 2, 7);
        Due.is("0 waits for 1", x.turn(0), Due.WAITING);
        Due.is("1 waits for 2", x.turn(1), Due.WAITING);
        Due.is("no ring yet", x.count(3), 0);
        Due.is("2 closes the ring and stays WAITING", x.turn(2), Due.WAITING);
        Due.is("one was aborted", x.count(3), 1);
        Due.part("bystander", x, 0, Due.WAITING, 1, 1, 1);
        Due.part("aborted", x, 1, Due.READY, 0, -1, 0);
        Due.part("closer", x, 2, Due.WAITING, 1, 0, 1);
        Due.is("undone", x.told(1, 6), 1);
        Due.is("not undone", x.told(0, 6) + x.told(2, 6), 0);
        Due.place("its change was taken back", x, 1, 0, -1);
        Due.place("others' stay", x, 0, 1, 0);
        Due.place("others' stay", x, 2, 1, 2);
        Due.is("it can go on", x.turn(0), Due.DONE);
        Due.is("and the next", x.turn(2), Due.DONE);
        Due.is("the aborted one from its start", x.turn(1), Due.READY);
        Due.is("the aborted one to its end", x.turn(1), Due.DONE);
        for (int place = 0; place < 3; place++) {
            Due.place("all done", x, place, 11, -1);
        }
        Due.is("steps, the undone one too", x.count(2), 7);
    }

    private static void itMayBeTheOneWhoseTurnItWas() {
        HouseThreads2 x = ring(5, 7, 0);
        x.turn(0);
        x.turn(1);
        Due.is("2 closes the ring and is aborted", x.turn(2), Due.READY);
        Due.part("aborted", x, 2, Due.READY, 0, -1, 0);
        Due.is("one was aborted", x.count(3), 1);
        Due.is("undone", x.told(2, 6), 1);
        Due.place("its place is free", x, 2, 0, -1);
        Due.part("stays", x, 0, Due.WAITING, 1, 1, 1);
        Due.part("stays", x, 1, Due.WAITING, 1, 2, 1);
    }

    private static void ofEqualRanksTheGreatestNumber() {
        int[][] ranks = {{3, 3}, {3, 3, 3}, {3, 3, 4}, {4, 3, 3, 9}, {1, 1, 2, 1, 2, 2}, {0, 0, 0, 0, 0, 0}};
        int[] due = {1, 2, 1, 2, 3, 5};
        for (int i = 0; i < due.length; i++) {
            int n = ranks[i].length;
            for (int last = 0; last < n; last++) {
                HouseThreads2 x = ring(ranks[i]);
                for (int k = 1; k <= n; k++) {
                    x.turn((last + k) % n);
                }
                for (int p = 0; p < n; p++) {
                    String call = "ranks " + i + ", closed by " + last + ": told(" + p + ", ";
                    Due.is(call + "6)", x.told(p, 6), p == due[i] ? 1 : 0);
                    Due.is(call + "0)", x.told(p, 0), p == due[i] ? Due.READY : Due.WAITING);
                }
                Due.is("count(3)", x.count(3), 1);
            }
        }
    }

    private static void onlyMembersOfTheRing() {
        HouseThreads2 x = ring(4, 5);
        x.part(0);
        x.step(2, Due.CHANGE, 7, 1);
        x.step(2, Due.CHANGE, 0, 1);
        x.turn(2);
        x.turn(0);
        Due.is("2 of rank 0 waits for 0", x.turn(2), Due.WAITING);
        Due.is("1 closes the ring with 0", x.turn(1), Due.WAITING);
        Due.is("0 is the least of the ring", x.told(0, 6), 1);
        Due.is("2 is not in the ring", x.told(2, 6), 0);
        Due.part("2 waits on", x, 2, Due.WAITING, 1, 0, 1);
    }

    private static void chainsAreNoRings() {
        HouseThreads2 x = Due.withParts(1, 1, 1);
        for (int i = 0; i < 3; i++) {
            x.step(i, Due.CHANGE, i, 1);
            x.step(i, Due.CHANGE, i + 1, 1);
            x.step(i, Due.CHANGE, 7, 1);
        }
        x.run(1);
        Due.is("0 waits", x.turn(0), Due.WAITING);
        Due.is("1 waits", x.turn(1), Due.WAITING);
        Due.is("0 waits on", x.turn(0), Due.WAITING);
        Due.is("nothing aborted", x.count(3), 0);
        Due.is("the rest goes on", x.run(50), 6);
        Due.is("all done", x.count(4), 3);
        Due.is("nothing aborted", x.count(3), 0);
    }

    private static void aListenerBreaksTheChain() {
        HouseThreads2 x = Due.withParts(1, 2);
        x.step(0, Due.CHANGE, 0, 1);
        x.step(0, Due.CHANGE, 1, 1);
        x.step(1, Due.CHANGE, 1, 1);
        x.step(1, Due.HEAR, 2, 0);
        x.step(1, Due.CHANGE, 0, 1);
        x.turn(0);
        x.turn(1);
        Due.is("it listens", x.turn(1), Due.LISTENING);
        Due.is("waiting for a listener is no ring", x.turn(0), Due.WAITING);
        Due.is("no ring", x.count(3), 0);
    }

    /** Part 0 waits for a place that goes from one holder to the next without a turn of its own. */
    private static void aNewHolderClosesTheRing() {
        HouseThreads2 x = Due.withParts(9, 8, 7);
        x.step(0, Due.CHANGE, 0, 1);
        x.step(0, Due.CHANGE, 5, 1);
        x.step(1, Due.CHANGE, 5, 1);
        x.step(1, Due.CHANGE, 6, 1);
        x.step(2, Due.CHANGE, 5, 1);
        x.step(2, Due.CHANGE, 0, 1);
        x.turn(0);
        x.turn(1);
        Due.is("0 waits for 1", x.turn(0), Due.WAITING);
        Due.is("1 is done", x.turn(1), Due.DONE);
        Due.is("2 takes the place", x.turn(2), Due.READY);
        Due.is("2 closes the ring and is aborted", x.turn(2), Due.READY);
        Due.is("aborted", x.count(3), 1);
        Due.is("undone", x.told(2, 6), 1);
        Due.is("0 gets the place", x.turn(0), Due.DONE);
    }

    private static void aHearMayWaitInARing() {
        HouseThreads2 x = Due.withParts(1, 2);
        x.step(0, Due.SEND, 0, 8);
        x.step(0, Due.HEAR, 0, 0);
        x.step(0, Due.HEAR, 1, 0);
        x.step(1, Due.HEAR, 1, 0);
        x.step(1, Due.HEAR, 0, 0);
        x.step(1, Due.SEND, 0, 1);
        x.turn(0);
        x.turn(0);
        Due.place("heard from itself", x, 0, 8, 0);
        x.turn(1);
        Due.is("0 waits for a place to hear into", x.turn(0), Due.WAITING);
        Due.is("a listener closes no ring", x.turn(1), Due.LISTENING);
        x.part(3);
        x.step(2, Due.SEND, 1, 20);
        x.turn(2);
        Due.is("heard", x.turn(1), Due.READY);
        Due.is("1 closes the ring", x.turn(1), Due.WAITING);
        Due.is("0 was aborted", x.told(0, 6), 1);
        Due.is("its message to itself is withdrawn", x.message(1, 0), Due.WITHDRAWN);
        Due.place("what it heard is taken back", x, 0, 0, -1);
        Due.place("what the other heard is not", x, 1, 20, 1);
    }

    private static void aRingInARun() {
        HouseThreads2 x = Due.withParts(9, 1);
        x.step(0, Due.CHANGE, 0, 1);
        x.step(0, Due.CHANGE, 1, 10);
        x.step(1, Due.CHANGE, 1, 1);
        x.step(1, Due.CHANGE, 0, 10);
        Due.is("a step each", x.run(1), 2);
        Due.is("0 waits, 1 closes the ring", x.run(1), 0);
        Due.is("1 was aborted", x.told(1, 6), 1);
        Due.is("0 is done, then 1 has its turn in the same round", x.run(1), 2);
        Due.is("the last step", x.run(50), 1);
        Due.place("all done", x, 0, 11, -1);
        Due.place("all done", x, 1, 11, -1);

        HouseThreads2 y = Due.withParts(9, 1);
        y.step(0, Due.CHANGE, 0, 1);
        y.step(0, Due.CHANGE, 1, 10);
        y.step(1, Due.CHANGE, 1, 1);
        y.step(1, Due.CHANGE, 0, 10);
        y.run(1);
        y.turn(1);
        Due.is("0 closes the ring, 1 starts anew in the same round", y.run(1), 1);
        Due.part("1 has had its turn", y, 1, Due.READY, 1, -1, 1);
        Due.part("0 waits", y, 0, Due.WAITING, 1, 1, 1);
    }

    private static void aRingAgain() {
        HouseThreads2 x = ring(9, 1);
        x.turn(0);
        x.turn(1);
        for (int i = 2; i <= 20; i++) {
            Due.is("1 starts anew", x.turn(1), Due.READY);
            Due.is("1 is aborted again", x.turn(1), Due.READY);
            Due.is("count(3)", x.count(3), i);
            Due.is("told(1, 6)", x.told(1, 6), i);
        }
        Due.place("each time undone whole", x, 1, 0, -1);
    }
}
