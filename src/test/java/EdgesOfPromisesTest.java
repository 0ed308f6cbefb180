/** The sentences of promises 1 to 16 that name an edge of an answer: a method for each, begun by its words. */
public final class EdgesOfPromisesTest {
    public static void main(String[] args) {
        promise1();
        promise2();
        promise3HowManyItHas();
        promise3Ranges();
        promise4TriedNextOrNot();
        promise4UntilItIsTried();
        promise5FromNowOn();
        promise6ItsStateThen();
        promise7Rounds();
        promise7WhoMayHaveATurn();
        promise7HowManySteps();
        promise8ToWhichPart();
        promise9HowManySteps();
        promise10ReadyAgain();
        promise11HowMany();
        promise12PartAndStep();
        promise12UndoneOnesStay();
        promise12TheFirst400();
        promise13ValueAndHolder();
        promise14States();
        promise15Told();
        promise16Counts();
        promise16AnotherWhat();
        Due.end();
    }

    private static void promise1() {
        Due.sentence("No parts; nothing is lost.");
        HouseThreads2 x = new HouseThreads2();
        for (int what = 0; what <= 5; what++) {
            Due.is("count(" + what + ")", x.count(what), 0);
        }
        Due.refused("told(0, 0)", Due.NO_SUCH, () -> x.told(0, 0));
        Due.refused("message(1, 0)", Due.NO_SUCH, () -> x.message(1, 0));
        Due.refused("log(0)", Due.ARGUMENT, () -> x.log(0));
        Due.is("run(50)", x.run(50), 0);
        Due.is("close()", x.close(), 0);
        x.part(0);
        x.step(0, Due.SEND, 0, 0);
        x.turn(0);
        Due.is("the first message", x.message(1, 0), Due.ON_ITS_WAY);
    }

    private static void promise2() {
        Due.sentence("A part: its number.");
        HouseThreads2 x = new HouseThreads2();
        for (int n = 0; n < 6; n++) {
            Due.is("of equal rank", x.part(9), n);
        }
        HouseThreads2 y = Due.withParts(0);
        y.close();
        Due.is("after a close", y.part(0), 1);
        Due.part("after a close", y, 1, Due.READY, 0, -1, 0);
    }

    private static void promise3HowManyItHas() {
        Due.sentence("A step at the end of a part's act: how many it has.");
        HouseThreads2 x = Due.withParts(1, 2);
        Due.is("none before", x.told(1, 2), 0);
        for (int n = 1; n <= 10; n++) {
            Due.is("part 0", x.step(0, Due.CHANGE, 0, n), n);
            Due.is("part 1", x.step(1, Due.CHANGE, 1, n), n);
        }
        for (int n = 1; n <= 10; n++) {
            x.turn(0);
            Due.is("in the order in which they came", x.place(0, 0), n * (n + 1) / 2);
        }
    }

    private static void promise3Ranges() {
        Due.sentence("(kind 0 .. 2; a a place, for SEND a part that there is; b -99 .. 99, for HEAR 0");
        for (int n = 0; n <= 7; n++) {
            HouseThreads2 x = Due.withParts(1, 2, 3);
            int a = n;
            Due.is("change of place " + a, x.step(0, Due.CHANGE, a, -99), 1);
            Due.is("hear into place " + a, x.step(0, Due.HEAR, a, 0), 2);
            if (a < 3) {
                Due.is("send to part " + a, x.step(0, Due.SEND, a, 99), 3);
            } else {
                Due.refusedWhole("send to part " + a, x, Due.ARGUMENT, () -> x.step(0, Due.SEND, a, 99));
            }
        }
        for (int b : new int[] {-99, -98, 0, 98, 99}) {
            HouseThreads2 x = Due.withParts(1);
            x.step(0, Due.CHANGE, 0, b);
            x.step(0, Due.SEND, 0, b);
            x.run(2);
            Due.is("change by " + b, x.place(0, 0), b);
            Due.is("send " + b, x.message(1, 3), b);
        }
    }

    private static void promise4TriedNextOrNot() {
        Due.sentence("Step i of a part's act fails when it is tried next, or does not.");
        HouseThreads2 x = Due.withParts(1);
        for (int i = 0; i < 10; i++) {
            x.step(0, Due.CHANGE, i % 8, 1);
        }
        for (int i = 0; i < 10; i++) {
            x.fails(0, i, true);
            Due.is("steps before step " + i, x.run(50), i);
            Due.is("step " + i + " failed", x.told(0, 0), Due.FAILED);
            x.restart(0);
            x.fails(0, i, true);
            x.fails(0, i, false);
            x.fails(0, i, false);
        }
        Due.is("none fails", x.run(50), 10);
        x.fails(0, 0, true);
        Due.is("told while it is DONE", x.told(0, 0), Due.DONE);
        x.restart(0);
        Due.is("tried next after the restart", x.turn(0), Due.FAILED);
        x.fails(0, 9, true);
        x.close();
        x.fails(0, 9, false);
        Due.is("told while it is ENDED", x.told(0, 0), Due.ENDED);
    }

    private static void promise4UntilItIsTried() {
        Due.sentence("Step i of a part's act fails when it is tried next");
        HouseThreads2 x = Due.withParts(1, 2);
        x.step(0, Due.HEAR, 0, 0);
        x.step(0, Due.CHANGE, 0, 1);
        x.fails(0, 1, true);
        x.turn(0);
        x.interrupt(0);
        Due.is("a step more, when it was undone", x.step(0, Due.CHANGE, 0, 1), 3);
        x.fails(0, 0, true);
        Due.is("step 0, which was told last", x.turn(0), Due.FAILED);
        x.restart(0);
        x.step(1, Due.SEND, 0, 5);
        x.turn(1);
        Due.is("step 0, which does not fail any more", x.turn(0), Due.READY);
        Due.is("step 1, tried for the first time", x.turn(0), Due.FAILED);
        x.restart(0);
        Due.is("none fails any more", x.run(3), 3);
    }

    private static void promise5FromNowOn() {
        Due.sentence("Messages that are sent are lost from now on, or not.");
        HouseThreads2 x = Due.withParts(1);
        for (int i = 0; i < 5; i++) {
            x.step(0, Due.SEND, 0, i);
        }
        boolean[] on = {false, true, true, false, true};
        for (int i = 0; i < 5; i++) {
            x.losing(on[i]);
            x.turn(0);
        }
        x.losing(false);
        for (int i = 0; i < 5; i++) {
            Due.is("message " + (i + 1), x.message(i + 1, 0), on[i] ? Due.LOST : Due.ON_ITS_WAY);
        }
        losingStaysOn();
    }

    private static void losingStaysOn() {
        HouseThreads2 x = Due.withParts(1, 2);
        x.losing(true);
        x.step(0, Due.SEND, 0, 1);
        x.step(0, Due.HEAR, 0, 0);
        Due.turns(x, 0, 0);
        x.interrupt(0);
        Due.turns(x, 0, 0);
        x.again(2);
        x.turn(0);
        x.restart(0);
        x.turn(0);
        x.close();
        x.part(3);
        x.step(2, Due.SEND, 0, 1);
        x.turn(2);
        Due.is("messages", x.count(1), 4);
        int[] states = {Due.LOST, Due.HEARD, Due.LOST, Due.LOST};
        for (int i = 0; i < 4; i++) {
            Due.is("message " + (i + 1), x.message(i + 1, 0), states[i]);
        }
    }

    private static void promise6ItsStateThen() {
        Due.sentence("A part's turn: its state then.");
        HouseThreads2 x = Due.withParts(5, 1, 7);
        x.step(0, Due.CHANGE, 0, 1);
        x.step(0, Due.CHANGE, 1, 1);
        x.step(1, Due.CHANGE, 1, 1);
        x.step(1, Due.CHANGE, 0, 1);
        x.step(2, Due.HEAR, 2, 0);
        Due.is("a step done", x.turn(0), 0);
        Due.is("a step done", x.turn(1), 0);
        Due.is("it waits", x.turn(0), 1);
        Due.is("it listens", x.turn(2), 2);
        Due.is("it is aborted", x.turn(1), 0);
        Due.is("its last step done", x.turn(0), 3);
        x.fails(1, 0, true);
        Due.is("it fails", x.turn(1), 4);
    }

    private static void promise7Rounds() {
        Due.sentence("So many rounds (0 .. 50)");
        for (int rounds : new int[] {0, 1, 49, 50}) {
            HouseThreads2 x = Edges.oneStepARound();
            Due.is("run(" + rounds + ")", x.run(rounds), rounds);
            Due.is("steps done", x.count(2), rounds);
            Due.is("the rest", x.run(50), Math.min(50, 60 - rounds));
        }
        HouseThreads2 x = Edges.oneStepARound();
        for (int rounds : new int[] {-1, 51, Integer.MIN_VALUE, Integer.MAX_VALUE}) {
            Due.refusedWhole("run(" + rounds + ")", x, Due.ARGUMENT, () -> x.run(rounds));
        }
    }

    private static void promise7WhoMayHaveATurn() {
        Due.sentence("in each all parts that may have a turn have one, upward");
        HouseThreads2 x = Edges.inAllStates();
        Due.is("a step of the READY one alone", x.run(1), 1);
        int[] states = {Due.ENDED, Due.READY, Due.WAITING, Due.LISTENING, Due.DONE, Due.FAILED};
        int[] at = {0, 1, 0, 0, 10, 0};
        for (int part = 0; part < 6; part++) {
            Due.is("told(" + part + ", 0)", x.told(part, 0), states[part]);
            Due.is("told(" + part + ", 3)", x.told(part, 3), at[part]);
        }
        Due.is("without parts", new HouseThreads2().run(50), 0);

        HouseThreads2 y = Due.withParts(1, 2, 3);
        y.step(2, Due.SEND, 0, 1);
        y.step(1, Due.SEND, 2, 1);
        y.step(0, Due.SEND, 1, 1);
        y.run(1);
        for (int i = 0; i < 3; i++) {
            Due.is("upward", y.log(i), 100 * i);
        }
    }

    private static void promise7HowManySteps() {
        Due.sentence("how many steps were done.");
        HouseThreads2 x = Due.withParts(1, 2, 3, 4, 5, 6);
        for (int part = 0; part < 6; part++) {
            for (int i = 0; i < 10; i++) {
                x.step(part, Due.CHANGE, part, 1);
            }
        }
        x.fails(5, 9, true);
        Due.is("nine rounds of six", x.run(9), 54);
        Due.is("five in the tenth; the undone ones of part 5 were done", x.run(41), 5);
        Due.is("none is left", x.run(50), 0);
    }

    private static void promise8ToWhichPart() {
        Due.sentence("A lost message is on its way again: to which part.");
        HouseThreads2 x = Due.withParts(0, 1, 2, 3, 4, 5);
        x.losing(true);
        for (int part = 0; part < 6; part++) {
            for (int i = 0; i < 10; i++) {
                x.step(part, Due.SEND, 5 - part, i);
            }
        }
        x.run(10);
        Due.is("all are lost", x.count(5), 0);
        Due.is("the first", x.again(1), 5);
        Due.is("the last", x.again(60), 0);
        Due.is("on their way", x.count(5), 2);
        Due.is("the first", x.message(1, 0), Due.ON_ITS_WAY);
        Due.is("its neighbour", x.message(2, 0), Due.LOST);
        Due.is("the last", x.message(60, 0), Due.ON_ITS_WAY);
        Due.is("no more messages than before", x.count(1), 60);
    }

    private static void promise9HowManySteps() {
        Due.sentence("A part that waits or listens is interrupted: it is undone and READY: how many steps were"
                + " undone.");
        for (int steps = 0; steps <= 9; steps++) {
            HouseThreads2 x = Due.withParts(1, 2);
            x.step(1, Due.HEAR, 7, 0);
            x.turn(1);
            for (int i = 0; i < steps; i++) {
                x.step(0, Due.CHANGE, i % 7, 1);
            }
            x.step(0, Due.CHANGE, 7, 1);
            x.run(10);
            Due.is("one that waits behind " + steps, x.interrupt(0), steps);
            Due.part("one that waits behind " + steps, x, 0, Due.READY, 0, -1, 0);
            Due.is("one that listens", x.interrupt(1), 0);
            Due.part("one that listens", x, 1, Due.READY, 0, -1, 0);
            Due.is("undone", x.told(0, 6), 1);
        }
    }

    private static void promise10ReadyAgain() {
        Due.sentence("A part that is DONE or FAILED is READY for its act again.");
        HouseThreads2 x = Edges.inAllStates();
        x.restart(4);
        Due.part("it was DONE", x, 4, Due.READY, 0, -1, 0);
        Due.is("it is not undone", x.told(4, 6), 0);
        Due.place("what it did stays", x, 4, 10, -1);
        x.restart(5);
        Due.part("it FAILED", x, 5, Due.READY, 0, -1, 0);
        Due.is("it is not undone again", x.told(5, 6), 1);
        Due.is("DONE ones", x.count(4), 0);
        Due.is("all steps again", x.run(10), 30);
        Due.place("twice", x, 4, 20, -1);
        Due.place("once", x, 5, 10, -1);
    }

    private static void promise11HowMany() {
        Due.sentence("All parts that are not DONE or ENDED are undone and ENDED: how many.");
        Due.is("no parts", new HouseThreads2().close(), 0);
        HouseThreads2 x = Edges.inAllStates();
        Due.is("all but the DONE and the ENDED one", x.close(), 4);
        int[] undone = {1, 1, 1, 1, 0, 2};
        for (int part = 0; part < 6; part++) {
            Due.part("closed", x, part, part == 4 ? Due.DONE : Due.ENDED, part == 4 ? 10 : 0, -1, 0);
            Due.is("told(" + part + ", 6)", x.told(part, 6), undone[part]);
        }
        Due.is("once more", x.close(), 0);
        Due.is("all six", Due.withParts(1, 2, 3, 4, 5, 6).close(), 6);
        HouseThreads2 y = Due.withParts(1);
        y.turn(0);
        Due.is("one that is DONE", y.close(), 0);
        Due.is("it stays", y.told(0, 0), Due.DONE);
    }

    private static void promise12PartAndStep() {
        Due.sentence("The i-th step that was done (undone ones stay): 100 times the part, and which step.");
        HouseThreads2 x = Due.withParts(1, 2, 3, 4, 5, 6);
        for (int part = 0; part < 6; part++) {
            for (int i = 0; i < 10; i++) {
                x.step(part, Due.CHANGE, part, 1);
            }
        }
        x.run(50);
        for (int i = 0; i < 60; i++) {
            Due.is("log(" + i + ")", x.log(i), 100 * (i % 6) + i / 6);
        }
        Due.refusedWhole("log(60)", x, Due.ARGUMENT, () -> x.log(60));
    }

    private static void promise12UndoneOnesStay() {
        Due.sentence("(undone ones stay)");
        HouseThreads2 x = Due.withParts(1);
        x.step(0, Due.CHANGE, 0, 1);
        x.step(0, Due.SEND, 0, 1);
        x.step(0, Due.CHANGE, 0, 1);
        x.fails(0, 2, true);
        x.run(3);
        Due.is("undone", x.told(0, 6), 1);
        x.restart(0);
        x.turn(0);
        int[] log = {0, 1, 0};
        for (int i = 0; i < 3; i++) {
            Due.is("log(" + i + ")", x.log(i), log[i]);
        }
        Due.refused("log(3)", Due.ARGUMENT, () -> x.log(3));
        Due.is("steps done", x.count(2), 3);
    }

    private static void promise12TheFirst400() {
        Due.sentence("there were not so many; of the first 400 alone something is told.");
        HouseThreads2 x = Due.withParts(1);
        for (int i = 0; i < 10; i++) {
            x.step(0, Due.CHANGE, 0, 1);
        }
        for (int act = 1; act <= 40; act++) {
            int done = x.count(2);
            Due.refused("log(" + done + ") of " + done, Due.ARGUMENT, () -> x.log(done));
            x.run(10);
            Due.is("log(" + done + ")", x.log(done), 0);
            Due.is("log(" + (done + 9) + ")", x.log(done + 9), 9);
            x.restart(0);
        }
        Due.refused("log(400) of 400", Due.ARGUMENT, () -> x.log(400));
        x.turn(0);
        Due.refused("log(400) of 401", Due.ARGUMENT, () -> x.log(400));
        x.turn(0);
        Due.refused("log(401) of 402", Due.ARGUMENT, () -> x.log(401));
        Due.refused("log(400) of 402", Due.ARGUMENT, () -> x.log(400));
        Due.is("log(0) of 402", x.log(0), 0);
        Due.is("log(399) of 402", x.log(399), 9);
        Due.is("steps are counted on", x.count(2), 402);
        Due.refused("log(-1)", Due.ARGUMENT, () -> x.log(-1));
    }

    private static void promise13ValueAndHolder() {
        Due.sentence("Of a place 0 its value, 1 the part that holds it (-1).");
        HouseThreads2 x = Due.withParts(1, 2, 3, 4, 5, 6);
        for (int part = 0; part < 6; part++) {
            x.step(part, Due.CHANGE, part, -part);
            x.step(part, Due.CHANGE, part, 0);
        }
        x.run(1);
        for (int place = 0; place <= 7; place++) {
            Due.place("held", x, place, place < 6 ? -place : 0, place < 6 ? place : -1);
        }
        x.run(1);
        for (int place = 0; place <= 7; place++) {
            Due.place("free", x, place, place < 6 ? -place : 0, -1);
        }
    }

    private static void promise14States() {
        Due.sentence("Of a message 0 its state (0 ON ITS WAY, 1 HEARD, 2 LOST, 3 WITHDRAWN), 1 from, 2 to, 3 its"
                + " value.");
        HouseThreads2 x = Due.withParts(1, 2);
        x.step(0, Due.SEND, 1, -99);
        x.step(0, Due.HEAR, 0, 0);
        x.step(1, Due.HEAR, 1, 0);
        x.turn(0);
        Edges.message(x, 1, 0, 0, 1, -99);
        x.turn(1);
        Edges.message(x, 1, 1, 0, 1, -99);
        x.turn(0);
        x.interrupt(0);
        x.losing(true);
        x.turn(0);
        Edges.message(x, 2, 2, 0, 1, -99);
        x.again(2);
        Edges.message(x, 2, 0, 0, 1, -99);
        x.turn(0);
        x.interrupt(0);
        Edges.message(x, 2, 3, 0, 1, -99);
    }

    private static void promise15Told() {
        Due.sentence("4 the place for which it waits (-1), 5 how many places it holds, 6 how often it was undone.");
        HouseThreads2 x = Edges.inAllStates();
        int[][] due = {
            {5, 0, 10, 0, -1, 0, 1}, {0, 1, 10, 0, -1, 0, 0}, {1, 2, 10, 0, 3, 0, 0},
            {2, 3, 10, 0, -1, 1, 0}, {3, 4, 10, 10, -1, 0, 0}, {4, 5, 10, 0, -1, 0, 1},
        };
        for (int part = 0; part < 6; part++) {
            for (int what = 0; what <= 6; what++) {
                Due.is("told(" + part + ", " + what + ")", x.told(part, what), due[part][what]);
            }
        }
        for (int i = 1; i <= 20; i++) {
            x.interrupt(2);
            Due.is("told(2, 6)", x.told(2, 6), i);
            Due.is("told(2, 4) when it does not wait", x.told(2, 4), -1);
            x.turn(2);
            Due.is("told(2, 4) when it waits", x.told(2, 4), 3);
        }
        x.interrupt(3);
        x.interrupt(2);
        x.turn(2);
        Due.is("told(2, 5)", x.told(2, 5), 1);
        Due.is("told(2, 4) when it holds the place", x.told(2, 4), -1);
    }

    private static void promise16Counts() {
        Due.sentence("0 parts, 1 messages, 2 steps done, 3 parts aborted by rings so far, 4 DONE ones, 5 messages"
                + " on their way");
        HouseThreads2 x = Edges.withSixtyMessages();
        int[] due = {6, 60, 60, 0, 6, 60};
        for (int what = 0; what <= 5; what++) {
            Due.is("count(" + what + ")", x.count(what), due[what]);
        }
        HouseThreads2 y = Edges.ring(9, 1);
        y.turn(0);
        for (int i = 1; i <= 20; i++) {
            y.turn(1);
            Due.is("count(3)", y.count(3), i);
            y.turn(1);
        }
    }

    private static void promise16AnotherWhat() {
        Due.sentence("-1 for another what.");
        HouseThreads2 x = Edges.withSixtyMessages();
        for (int what : new int[] {-1, -2, 6, 7, 100, Integer.MIN_VALUE, Integer.MAX_VALUE}) {
            Due.is("count(" + what + ")", x.count(what), -1);
            Due.is("count(" + what + ") of a new object", new HouseThreads2().count(what), -1);
        }
    }
}
