import java.util.Arrays;

/** The sentences of "Terms" on undoing and on rings that name an edge: a method for each, begun by its words. */
public final class EdgesOfUndoingTest {
    public static void main(String[] args) {
        noStepToUndo();
        nineStepsToUndo();
        fromTheLastOneBack();
        onItsWayOrNot();
        aHeardOneIsOnItsWayAgain();
        aHeardOneOfASenderThatFailed();
        placesAreFreeAndAtIs0();
        fourWaysToBeUndone();
        ringsOfTwoToSix();
        noRingBeforeTheLastOneWaits();
        aRingThatDoesNotComeBackToIt();
        theLeastRank();
        ofEqualOnesTheGreatestNumber();
        theOneWhoseTurnItWas();
        Due.end();
    }

    private static void noStepToUndo() {
        Due.sentence("UNDOING an act: its steps from the last one back");
        HouseThreads2 x = Due.withParts(1);
        x.step(0, Due.HEAR, 3, 0);
        x.turn(0);
        Due.is("no step was done", x.interrupt(0), 0);
        Due.part("no step was done", x, 0, Due.READY, 0, -1, 0);
        Due.place("the place it listened into", x, 3, 0, -1);
        Due.is("it was undone", x.told(0, 6), 1);
    }

    private static void nineStepsToUndo() {
        Due.sentence("a change is taken back");
        HouseThreads2 x = Due.withParts(1, 2);
        x.step(1, Due.CHANGE, 0, 5);
        x.turn(1);
        int[] by = {99, 99, -99, 1, 0, -1, 50, 99, -2};
        for (int i = 0; i < 9; i++) {
            x.step(0, Due.CHANGE, i % 3, by[i]);
        }
        x.step(0, Due.HEAR, 7, 0);
        x.run(10);
        Due.place("before", x, 0, 155, 0);
        Due.place("before", x, 1, 198, 0);
        Due.place("before", x, 2, -102, 0);
        Due.is("nine steps", x.interrupt(0), 9);
        Due.place("another's change stays", x, 0, 5, -1);
        Due.place("taken back", x, 1, 0, -1);
        Due.place("taken back", x, 2, 0, -1);
    }

    private static void fromTheLastOneBack() {
        Due.sentence("its steps from the last one back");
        HouseThreads2 x = Due.withParts(1);
        x.step(0, Due.SEND, 0, 9);
        x.step(0, Due.HEAR, 1, 0);
        x.step(0, Due.CHANGE, 1, 1);
        x.fails(0, 2, true);
        Due.turns(x, 0, 0);
        Due.place("it heard itself", x, 1, 9, 0);
        Due.is("HEARD", x.message(1, 0), Due.HEARD);
        x.turn(0);
        Due.is("on its way by the hear, then withdrawn by the send", x.message(1, 0), Due.WITHDRAWN);
        Due.place("taken from the place", x, 1, 0, -1);
    }

    private static void onItsWayOrNot() {
        Due.sentence("a message that was sent is WITHDRAWN if it is on its way (else it stays)");
        HouseThreads2 x = Due.withParts(1, 2);
        for (int i = 0; i < 4; i++) {
            x.step(0, Due.SEND, 1, i);
        }
        x.step(0, Due.HEAR, 0, 0);
        x.step(1, Due.HEAR, 1, 0);
        x.turn(0);
        x.turn(1);
        x.losing(true);
        Due.turns(x, 0, 0);
        x.losing(false);
        x.again(3);
        Due.turns(x, 0, 0);
        Due.is("four sends", x.interrupt(0), 4);
        Due.is("HEARD by one that is done", x.message(1, 0), Due.HEARD);
        Due.is("LOST", x.message(2, 0), Due.LOST);
        Due.is("lost and on its way again", x.message(3, 0), Due.WITHDRAWN);
        Due.is("on its way", x.message(4, 0), Due.WITHDRAWN);
        Due.is("none is on its way", x.count(5), 0);
        Due.is("all are there", x.count(1), 4);
    }

    private static void aHeardOneIsOnItsWayAgain() {
        Due.sentence("the value of a message that was heard is taken from the place, and the message is on its way"
                + " again.");
        HouseThreads2 x = Due.withParts(1, 2);
        int[] values = {-99, 99, 0};
        for (int value : values) {
            x.step(0, Due.SEND, 1, value);
            x.step(1, Due.HEAR, value == 0 ? 5 : 4, 0);
        }
        x.step(1, Due.HEAR, 4, 0);
        x.run(4);
        Due.part("it heard all three", x, 1, Due.LISTENING, 3, -1, 2);
        Due.is("three hears", x.interrupt(1), 3);
        Due.place("taken from the place", x, 4, 0, -1);
        Due.is("on their way", x.count(5), 3);
        x.turn(1);
        Due.place("the first is heard first again", x, 4, -99, 1);
    }

    private static void aHeardOneOfASenderThatFailed() {
        Due.sentence("(else it stays); the value of a message that was heard is taken from the place, and the message"
                + " is on its way again.");
        HouseThreads2 x = Due.withParts(1, 2);
        x.step(0, Due.SEND, 1, 6);
        x.step(0, Due.CHANGE, 0, 1);
        x.fails(0, 1, true);
        x.step(1, Due.HEAR, 1, 0);
        x.step(1, Due.HEAR, 1, 0);
        Due.turns(x, 0, 1, 0, 1);
        Due.is("it stays when its sender fails", x.message(1, 0), Due.HEARD);
        Due.place("it stays when its sender fails", x, 1, 6, 1);
        x.interrupt(1);
        Due.is("it is on its way again", x.message(1, 0), Due.ON_ITS_WAY);
        Due.place("taken from the place", x, 1, 0, -1);
        x.turn(1);
        Due.is("it is heard once more", x.message(1, 0), Due.HEARD);
    }

    private static void placesAreFreeAndAtIs0() {
        Due.sentence("Its places are free, AT is 0.");
        HouseThreads2 x = Due.withParts(1, 2);
        for (int place = 0; place <= 6; place++) {
            x.step(0, Due.CHANGE, place, 1);
        }
        x.step(0, Due.HEAR, 7, 0);
        Due.turns(x, 0, 0, 0, 0, 0, 0, 0, 0);
        Due.part("all places are held", x, 0, Due.LISTENING, 7, -1, 8);
        x.interrupt(0);
        Due.part("undone", x, 0, Due.READY, 0, -1, 0);
        for (int place = 0; place <= 7; place++) {
            Due.place("free", x, place, 0, -1);
            x.step(1, Due.CHANGE, place, 1);
        }
        x.step(1, Due.CHANGE, 0, 0);
        Due.turns(x, 1, 1, 1, 1, 1, 1, 1, 1);
        Due.is("another may hold them all", x.told(1, 5), 8);
    }

    private static void fourWaysToBeUndone() {
        Due.sentence("A part that FAILS, is interrupted, aborted or ended is undone.");
        int[] states = {Due.FAILED, Due.READY, Due.READY, Due.ENDED};
        for (int way = 0; way < 4; way++) {
            HouseThreads2 x = Edges.ring(1, 2);
            x.turn(0);
            Due.part("before", x, 0, Due.WAITING, 1, 1, 1);
            if (way == 0) {
                x.fails(0, 1, true);
                x.turn(0);
            } else if (way == 1) {
                x.interrupt(0);
            } else if (way == 2) {
                x.turn(1);
            } else {
                x.close();
            }
            Due.part("way " + way, x, 0, states[way], 0, -1, 0);
            Due.place("way " + way, x, 0, 0, -1);
            Due.is("way " + way + ": told(0, 6)", x.told(0, 6), 1);
            Due.is("way " + way + ": count(3)", x.count(3), way == 2 ? 1 : 0);
        }
    }

    private static void ringsOfTwoToSix() {
        Due.sentence("each waiting for a place that the next one holds, one comes back to it");
        for (int n = 2; n <= 6; n++) {
            HouseThreads2 x = Edges.ring(Arrays.copyOf(new int[] {4, 5, 6, 7, 8, 9}, n));
            for (int part = 0; part < n - 1; part++) {
                Due.is("part " + part + " of " + n, x.turn(part), Due.WAITING);
                Due.is("no ring yet of " + n, x.count(3), 0);
            }
            Due.is("the last one of " + n, x.turn(n - 1), Due.WAITING);
            Due.is("a ring of " + n, x.count(3), 1);
            Due.part("aborted", x, 0, Due.READY, 0, -1, 0);
            for (int part = 1; part < n; part++) {
                Due.part("of the ring of " + n, x, part, Due.WAITING, 1, (part + 1) % n, 1);
            }
        }
    }

    private static void noRingBeforeTheLastOneWaits() {
        Due.sentence("RINGS: when a part comes to WAIT, and from it on, each waiting");
        HouseThreads2 x = Edges.ring(1, 1, 1);
        Due.turns(x, 0, 1, 0, 1);
        Due.is("the last one has not come to wait", x.count(3), 0);
        Due.part("it is READY", x, 2, Due.READY, 1, -1, 1);
        x.turn(2);
        Due.is("it has", x.count(3), 1);
        Due.is("the ring is broken: others wait on", x.turn(0), Due.WAITING);
        Due.is("no other is aborted", x.count(3), 1);
    }

    /** Part 2 comes to wait for a place of part 0, which waits in a chain that ends: nothing comes back to part 2. */
    private static void aRingThatDoesNotComeBackToIt() {
        Due.sentence("one comes back to it, then of the parts in this ring");
        HouseThreads2 x = Edges.ring(5, 6);
        x.part(0);
        x.step(2, Due.CHANGE, 7, 1);
        x.step(2, Due.CHANGE, 0, 1);
        Due.turns(x, 2, 2, 0);
        Due.is("2 waits for 0, 0 for 1", x.count(3), 0);
        x.turn(1);
        Due.is("1 closes the ring with 0", x.told(0, 6), 1);
        Due.is("2 has the least rank, but is not in the ring", x.told(2, 6), 0);
        Due.part("2 waits on", x, 2, Due.WAITING, 1, 0, 1);
        Due.is("its place is free now", x.turn(2), Due.DONE);
    }

    private static void theLeastRank() {
        Due.sentence("the one with the least rank");
        for (int least = 0; least < 6; least++) {
            int[] ranks = {9, 9, 9, 9, 9, 9};
            ranks[least] = 8;
            HouseThreads2 x = Edges.ring(ranks);
            Due.turns(x, 0, 1, 2, 3, 4, 5);
            for (int part = 0; part < 6; part++) {
                Due.is("least is " + least + ": told(" + part + ", 6)", x.told(part, 6), part == least ? 1 : 0);
            }
        }
        HouseThreads2 x = Edges.ring(9, 0);
        Due.turns(x, 0, 1);
        Due.is("ranks 9 and 0", x.told(1, 6), 1);
        HouseThreads2 y = Edges.ring(0, 9);
        Due.turns(y, 0, 1);
        Due.is("ranks 0 and 9", y.told(0, 6), 1);
    }

    private static void ofEqualOnesTheGreatestNumber() {
        Due.sentence("(of equal ones the greatest number)");
        int[][] ranks = {{0, 0}, {9, 9, 9, 9, 9, 9}, {2, 2, 5}, {5, 2, 2, 5, 2, 5}, {1, 3, 3, 3, 3, 1}};
        int[] due = {1, 5, 1, 4, 5};
        for (int i = 0; i < due.length; i++) {
            for (int first = 0; first < ranks[i].length; first++) {
                HouseThreads2 x = Edges.ring(ranks[i]);
                for (int k = 0; k < ranks[i].length; k++) {
                    x.turn((first + k) % ranks[i].length);
                }
                Due.is("ranks " + i + " from part " + first, x.told(due[i], 6), 1);
                Due.is("one alone", x.count(3), 1);
            }
        }
    }

    private static void theOneWhoseTurnItWas() {
        Due.sentence("it is undone and READY. The part whose turn it was stays WAITING, if it was not that one.");
        HouseThreads2 x = Edges.ring(1, 0);
        x.turn(0);
        Due.is("it was that one", x.turn(1), Due.READY);
        Due.part("it was that one", x, 1, Due.READY, 0, -1, 0);
        Due.part("the other", x, 0, Due.WAITING, 1, 1, 1);

        HouseThreads2 y = Edges.ring(0, 1);
        y.turn(0);
        Due.is("it was not that one", y.turn(1), Due.WAITING);
        Due.part("it was not that one", y, 1, Due.WAITING, 1, 0, 1);
        Due.part("the other", y, 0, Due.READY, 0, -1, 0);
        Due.place("the place is free, yet not taken in this turn", y, 0, 0, -1);
        Due.is("it is taken in the next one", y.turn(1), Due.DONE);
    }
}
