/** The sentences of "Terms" on turns and failing steps that name an edge: a method for each, begun by its words. */
public final class EdgesOfTurnsTest {
    public static void main(String[] args) {
        whoMayHaveATurn();
        anotherPartHoldsThePlace();
        itselfOrNoneHoldsThePlace();
        theSixtiethAndTheSixtyFirst();
        allMessagesCountForTheSixty();
        theSixtyFirstInALongAct();
        hearNeedsThePlace();
        theFirstMessageIsHeard();
        thereIsNoneToHear();
        behindTheLastStep();
        behindTheOnlyStep();
        withoutSteps();
        failsBeforeAllElse();
        failsBeforeARing();
        failsBeforeTheSixtyFirst();
        failsOnce();
        Due.end();
    }

    private static void whoMayHaveATurn() {
        Due.sentence("A TURN of a READY, WAITING or LISTENING part tries its next step.");
        HouseThreads2 x = Due.withParts(1, 2, 3);
        x.step(0, Due.HEAR, 0, 0);
        x.step(1, Due.CHANGE, 0, 5);
        x.step(2, Due.SEND, 0, 7);
        Due.is("READY, nothing to hear", x.turn(0), Due.LISTENING);
        Due.is("READY, a held place", x.turn(1), Due.WAITING);
        Due.is("READY, a send", x.turn(2), Due.DONE);
        Due.part("it listens until its turn", x, 0, Due.LISTENING, 0, -1, 1);
        Due.is("LISTENING, now there is a message", x.turn(0), Due.DONE);
        Due.part("it waits until its turn", x, 1, Due.WAITING, 0, 0, 0);
        Due.is("WAITING, now the place is free", x.turn(1), Due.DONE);
        Due.place("heard and changed", x, 0, 12, -1);
        for (int part = 0; part < 3; part++) {
            int p = part;
            Due.refusedWhole("turn of a DONE part", x, Due.STATE, () -> x.turn(p));
        }
    }

    private static void anotherPartHoldsThePlace() {
        Due.sentence("CHANGE: if another part holds the place, the part WAITS for it");
        for (int place = 0; place <= 7; place++) {
            HouseThreads2 x = Due.withParts(1, 1);
            x.step(0, Due.CHANGE, place, 3);
            x.step(0, Due.CHANGE, place, 3);
            x.step(1, Due.CHANGE, place, 50);
            x.turn(0);
            Due.is("a held place", x.turn(1), Due.WAITING);
            Due.part("held by 0", x, 1, Due.WAITING, 0, place, 0);
            Due.place("held by 0", x, place, 3, 0);
            Due.is("waiting is no step", x.count(2), 1);
        }
    }

    private static void itselfOrNoneHoldsThePlace() {
        Due.sentence("else it holds the place, and the value is changed.");
        HouseThreads2 x = Due.withParts(1);
        x.step(0, Due.CHANGE, 0, 0);
        x.step(0, Due.CHANGE, 0, 99);
        x.step(0, Due.CHANGE, 0, -99);
        x.step(0, Due.HEAR, 0, 0);
        Due.is("held by none", x.turn(0), Due.READY);
        Due.place("changed by 0", x, 0, 0, 0);
        Due.is("held by itself", x.turn(0), Due.READY);
        Due.place("changed by 99", x, 0, 99, 0);
        Due.is("held by itself", x.turn(0), Due.READY);
        Due.place("changed by -99", x, 0, 0, 0);
        Due.is("held by itself, to hear into", x.turn(0), Due.LISTENING);
        Due.is("one place is held", x.told(0, 5), 1);
    }

    private static void theSixtiethAndTheSixtyFirst() {
        Due.sentence("SEND: a message is sent (if sixty were, the part FAILS).");
        HouseThreads2 x = Due.withParts(1);
        for (int i = 0; i < 10; i++) {
            x.step(0, Due.SEND, 0, i);
        }
        for (int n = 1; n <= 60; n++) {
            Due.is("send " + n, x.turn(0), n % 10 == 0 ? Due.DONE : Due.READY);
            Due.is("messages", x.count(1), n);
            if (n % 10 == 0) {
                x.restart(0);
            }
        }
        Due.is("send 61", x.turn(0), Due.FAILED);
        Due.part("failed", x, 0, Due.FAILED, 0, -1, 0);
        Due.is("messages", x.count(1), 60);
        Due.is("no step was done", x.count(2), 60);
        Due.is("undone", x.told(0, 6), 1);
        Due.is("the sixty of acts that were done are not", x.count(5), 60);
        x.restart(0);
        Due.is("send 61 once more", x.turn(0), Due.FAILED);
        x.losing(true);
        x.restart(0);
        Due.is("send 61, to be lost", x.turn(0), Due.FAILED);
    }

    private static void allMessagesCountForTheSixty() {
        Due.sentence("(if sixty were, the part FAILS)");
        HouseThreads2 x = Due.withParts(1, 2);
        for (int i = 0; i < 9; i++) {
            x.step(0, Due.SEND, 1, 1);
            x.step(1, Due.HEAR, 0, 0);
        }
        x.step(0, Due.HEAR, 1, 0);
        for (int act = 0; act < 6; act++) {
            x.losing(act % 2 == 0);
            x.run(10);
            x.interrupt(0);
        }
        Due.is("sent, some of them lost, heard or withdrawn", x.count(1), 54);
        Due.is("none is on its way", x.count(5), 0);
        Due.is("six more", x.run(6), 6);
        Due.is("messages", x.count(1), 60);
        Due.is("send 61", x.turn(0), Due.FAILED);
        Due.is("messages", x.count(1), 60);
    }

    private static void theSixtyFirstInALongAct() {
        Due.sentence("(if sixty were, the part FAILS)");
        HouseThreads2 x = Due.withParts(1);
        x.step(0, Due.CHANGE, 4, 6);
        for (int i = 0; i < 9; i++) {
            x.step(0, Due.SEND, 0, i);
        }
        for (int act = 1; act <= 6; act++) {
            x.run(10);
            x.restart(0);
        }
        Due.is("the change and sends 55 to 60", x.run(7), 7);
        Due.place("before it fails", x, 4, 42, 0);
        Due.is("send 61", x.turn(0), Due.FAILED);
        Due.place("its change is taken back", x, 4, 36, -1);
        Due.is("send 54 was of another act", x.message(54, 0), Due.ON_ITS_WAY);
        for (int m = 55; m <= 60; m++) {
            Due.is("send " + m + " is taken back", x.message(m, 0), Due.WITHDRAWN);
        }
        Due.is("messages", x.count(1), 60);
    }

    private static void hearNeedsThePlace() {
        Due.sentence("HEAR: needs the place as CHANGE does");
        HouseThreads2 x = Due.withParts(1, 2);
        x.step(0, Due.SEND, 1, 40);
        x.step(0, Due.CHANGE, 7, 2);
        x.step(0, Due.CHANGE, 7, 0);
        x.step(1, Due.HEAR, 7, 0);
        Due.turns(x, 0, 0);
        Due.is("another holds it", x.turn(1), Due.WAITING);
        Due.part("another holds it", x, 1, Due.WAITING, 0, 7, 0);
        Due.is("its message is not heard yet", x.message(1, 0), Due.ON_ITS_WAY);
        Due.place("nor its value added", x, 7, 2, 0);
        Due.is("the holder is done", x.turn(0), Due.DONE);
        Due.is("none holds it", x.turn(1), Due.DONE);
        Due.place("heard", x, 7, 42, -1);
    }

    private static void theFirstMessageIsHeard() {
        Due.sentence("then the first message on its way to it is heard, and its value is added to the place");
        HouseThreads2 x = Due.withParts(1, 2);
        int[] values = {-99, 99, 0, 5};
        x.step(0, Due.SEND, 0, 77);
        for (int value : values) {
            x.step(0, Due.SEND, 1, value);
            x.step(1, Due.HEAR, 6, 0);
        }
        x.step(1, Due.CHANGE, 0, 0);
        x.run(1);
        Due.part("a message to another is none", x, 1, Due.LISTENING, 0, -1, 1);
        Due.turns(x, 0, 0, 0, 0);
        int[] sums = {-99, 0, 0, 5};
        for (int i = 0; i < 4; i++) {
            Due.is("heard", x.turn(1), Due.READY);
            Due.place("heard", x, 6, sums[i], 1);
            for (int m = 0; m < 4; m++) {
                Due.is("message " + (m + 2), x.message(m + 2, 0), m <= i ? Due.HEARD : Due.ON_ITS_WAY);
            }
        }
        Due.is("the message to another", x.message(1, 0), Due.ON_ITS_WAY);
    }

    private static void thereIsNoneToHear() {
        Due.sentence("if there is none, the part holds the place and LISTENS.");
        HouseThreads2 x = Due.withParts(1, 2);
        x.step(0, Due.HEAR, 2, 0);
        x.step(0, Due.HEAR, 2, 0);
        x.step(1, Due.SEND, 0, 4);
        x.step(1, Due.SEND, 0, 8);
        x.step(1, Due.HEAR, 2, 0);
        Due.is("no message at all", x.turn(0), Due.LISTENING);
        Due.part("no message at all", x, 0, Due.LISTENING, 0, -1, 1);
        Due.place("no message at all", x, 2, 0, 0);
        x.losing(true);
        x.turn(1);
        Due.is("a LOST one", x.turn(0), Due.LISTENING);
        x.again(1);
        Due.is("it is heard", x.turn(0), Due.READY);
        Due.is("a HEARD one", x.turn(0), Due.LISTENING);
        x.losing(false);
        Due.turns(x, 1, 1);
        Due.is("another waits for the listener's place", x.told(1, 4), 2);
        x.interrupt(1);
        Due.is("a HEARD and a WITHDRAWN one", x.turn(0), Due.LISTENING);
        Due.part("nothing more was heard", x, 0, Due.LISTENING, 1, -1, 1);
        Due.place("nothing more was heard", x, 2, 4, 0);
        Due.is("listening is no step", x.count(2), 3);
    }

    private static void behindTheLastStep() {
        Due.sentence("A step done: AT goes on, the part is READY; behind the last one it is DONE, and its places"
                + " are free.");
        HouseThreads2 x = Due.withParts(1);
        for (int i = 0; i < 10; i++) {
            x.step(0, Due.CHANGE, i % 8, 1);
        }
        for (int i = 1; i <= 9; i++) {
            Due.is("step " + i, x.turn(0), Due.READY);
            Due.part("step " + i, x, 0, Due.READY, i, -1, Math.min(i, 8));
        }
        Due.is("the tenth step", x.turn(0), Due.DONE);
        Due.part("the tenth step", x, 0, Due.DONE, 10, -1, 0);
        for (int place = 0; place <= 7; place++) {
            Due.place("free", x, place, place <= 1 ? 2 : 1, -1);
        }
    }

    private static void behindTheOnlyStep() {
        Due.sentence("behind the last one it is DONE, and its places are free.");
        for (int kind = 0; kind <= 2; kind++) {
            HouseThreads2 x = Due.withParts(1, 2);
            x.step(1, Due.SEND, 0, 0);
            x.step(0, kind, 0, 0);
            x.turn(1);
            Due.is("an act of one step of kind " + kind, x.turn(0), Due.DONE);
            Due.part("an act of one step", x, 0, Due.DONE, 1, -1, 0);
            Due.place("free", x, 0, 0, -1);
            Due.is("DONE ones", x.count(4), 2);
        }
    }

    private static void withoutSteps() {
        Due.sentence("A part without steps is DONE by its first turn.");
        HouseThreads2 x = Due.withParts(1, 2);
        Due.part("before its turn", x, 0, Due.READY, 0, -1, 0);
        Due.is("no round, no turn", x.run(0), 0);
        Due.part("no round, no turn", x, 0, Due.READY, 0, -1, 0);
        Due.is("its turn", x.turn(0), Due.DONE);
        Due.part("its turn", x, 0, Due.DONE, 0, -1, 0);
        Due.is("another's turn is not its own", x.told(1, 0), Due.READY);
        Due.is("a round", x.run(1), 0);
        Due.is("DONE by the round", x.told(1, 0), Due.DONE);
        Due.is("no step was done", x.count(2), 0);
        x.restart(0);
        Due.is("its first turn after a restart", x.turn(0), Due.DONE);
        x.restart(0);
        Due.is("it may have steps after a restart", x.step(0, Due.CHANGE, 0, 1), 1);
        Due.is("not DONE before the step is done", x.told(0, 0), Due.READY);
        Due.is("and then it is", x.run(1), 1);
    }

    private static void failsBeforeAllElse() {
        Due.sentence("A step that is told to FAIL does so when it is tried (before all else");
        HouseThreads2 x = Due.withParts(1, 2, 3);
        x.step(0, Due.HEAR, 1, 0);
        x.step(0, Due.CHANGE, 2, 1);
        x.step(1, Due.SEND, 0, 9);
        x.step(2, Due.CHANGE, 2, 1);
        x.step(2, Due.CHANGE, 2, 1);
        Due.turns(x, 1, 2);
        x.fails(0, 0, true);
        Due.is("told, not tried: nothing fails yet", x.told(0, 0), Due.READY);
        Due.is("a hear", x.turn(0), Due.FAILED);
        Due.is("before it hears", x.message(1, 0), Due.ON_ITS_WAY);
        Due.place("before it holds", x, 1, 0, -1);
        x.restart(0);
        x.turn(0);
        x.fails(0, 1, true);
        Due.is("a change", x.turn(0), Due.FAILED);
        Due.part("before it waits", x, 0, Due.FAILED, 0, -1, 0);
        x.restart(1);
        x.fails(1, 0, true);
        Due.is("a send", x.turn(1), Due.FAILED);
        Due.is("before it sends", x.count(1), 1);
        Due.is("failing is no step", x.count(2), 3);
    }

    private static void failsBeforeARing() {
        Due.sentence("(before all else");
        HouseThreads2 x = Edges.ring(1, 9);
        x.turn(0);
        x.fails(1, 1, true);
        Due.is("the step that would close the ring", x.turn(1), Due.FAILED);
        Due.is("none was aborted", x.count(3), 0);
        Due.part("the other one waits on", x, 0, Due.WAITING, 1, 1, 1);
        Due.is("the other one goes on", x.turn(0), Due.DONE);
    }

    private static void failsBeforeTheSixtyFirst() {
        Due.sentence("once: then it does not any more): the part FAILS.");
        HouseThreads2 x = Edges.withSixtyMessages();
        x.restart(0);
        x.fails(0, 0, true);
        Due.is("it fails as it is told", x.turn(0), Due.FAILED);
        x.restart(0);
        Due.is("it fails for want of room", x.turn(0), Due.FAILED);
        Due.is("undone twice", x.told(0, 6), 2);
    }

    private static void failsOnce() {
        Due.sentence("once: then it does not any more): the part FAILS.");
        for (int i = 0; i < 10; i += 9) {
            HouseThreads2 x = Due.withParts(1);
            for (int k = 0; k < 10; k++) {
                x.step(0, Due.CHANGE, 0, 1);
            }
            x.fails(0, i, true);
            x.fails(0, i, true);
            Due.is("steps before step " + i, x.run(50), i);
            Due.part("step " + i + " failed", x, 0, Due.FAILED, 0, -1, 0);
            Due.place("step " + i + " failed", x, 0, 0, -1);
            x.restart(0);
            Due.is("all steps", x.run(50), 10);
            Due.part("all steps", x, 0, Due.DONE, 10, -1, 0);
        }
    }
}
