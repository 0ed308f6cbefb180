/**
 * The sentences that name a refusal: each reason of each call by itself, then of two reasons the first. A refused call
 * must leave all as it was.
 */
public final class EdgesOfRefusalsTest {
    /** The parts of Edges.inAllStates by their states. */
    private static final int ENDED = 0, READY = 1, WAITING = 2, LISTENING = 3, DONE = 4, FAILED = 5;

    public static void main(String[] args) {
        partsThatThereAreNot();
        messagesThatThereAreNot();
        stepNumbers();
        stepStates();
        failsSteps();
        turnStates();
        againStates();
        interruptStates();
        restartStates();
        logNumbers();
        placeNumbers();
        messageNumbers();
        toldNumbers();
        firstThatHoldsOfPart();
        firstThatHoldsOfStep();
        firstThatHoldsOfTheRest();
        Due.end();
    }

    private static void partsThatThereAreNot() {
        Due.sentence("NoSuchElementException: a part or message that there is not");
        for (int parts = 0; parts <= 6; parts++) {
            HouseThreads2 x = new HouseThreads2();
            for (int i = 0; i < parts; i++) {
                x.part(i);
                x.step(i, Due.CHANGE, i, 1);
            }
            for (int part : new int[] {-1, parts, parts + 1, Integer.MIN_VALUE, Integer.MAX_VALUE}) {
                String of = " of part " + part + " of " + parts;
                Due.refusedWhole("step" + of, x, Due.NO_SUCH, () -> x.step(part, Due.CHANGE, 0, 0));
                Due.refusedWhole("fails" + of, x, Due.NO_SUCH, () -> x.fails(part, 0, true));
                Due.refusedWhole("turn" + of, x, Due.NO_SUCH, () -> x.turn(part));
                Due.refusedWhole("interrupt" + of, x, Due.NO_SUCH, () -> x.interrupt(part));
                Due.refusedWhole("restart" + of, x, Due.NO_SUCH, () -> x.restart(part));
                Due.refusedWhole("told" + of, x, Due.NO_SUCH, () -> x.told(part, 0));
            }
        }
    }

    private static void messagesThatThereAreNot() {
        Due.sentence("NoSuchElementException: a part or message that there is not");
        HouseThreads2 x = Due.withParts(1);
        x.step(0, Due.SEND, 0, 1);
        x.losing(true);
        for (int sent = 0; sent <= 60; sent++) {
            if (sent <= 2 || sent >= 59) {
                for (int message : new int[] {-1, 0, sent + 1, Integer.MIN_VALUE, Integer.MAX_VALUE}) {
                    String of = "(" + message + ") of " + sent;
                    Due.refusedWhole("message" + of, x, Due.NO_SUCH, () -> x.message(message, 0));
                    Due.refusedWhole("again" + of, x, Due.NO_SUCH, () -> x.again(message));
                }
            }
            x.turn(0);
            x.restart(0);
        }
        Due.is("the last one that there is", x.again(60), 0);
    }

    private static void stepNumbers() {
        Due.sentence("(kind 0 .. 2; a a place, for SEND a part that there is; b -99 .. 99, for HEAR 0:"
                + " else IllegalArgumentException.)");
        HouseThreads2 x = Due.withParts(1, 2);
        int min = Integer.MIN_VALUE;
        int max = Integer.MAX_VALUE;
        int[][] wrong = {
            {-1, 0, 0}, {3, 0, 0}, {min, 0, 0}, {max, 0, 0},
            {Due.CHANGE, -1, 0}, {Due.CHANGE, 8, 0}, {Due.CHANGE, min, 0}, {Due.CHANGE, max, 0},
            {Due.CHANGE, 0, -100}, {Due.CHANGE, 0, 100}, {Due.CHANGE, 0, min}, {Due.CHANGE, 0, max},
            {Due.SEND, -1, 0}, {Due.SEND, 2, 0}, {Due.SEND, 6, 0}, {Due.SEND, min, 0}, {Due.SEND, max, 0},
            {Due.SEND, 0, -100}, {Due.SEND, 0, 100}, {Due.SEND, 0, min}, {Due.SEND, 0, max},
            {Due.HEAR, -1, 0}, {Due.HEAR, 8, 0}, {Due.HEAR, min, 0}, {Due.HEAR, max, 0},
            {Due.HEAR, 0, -1}, {Due.HEAR, 0, 1}, {Due.HEAR, 0, min}, {Due.HEAR, 0, max},
        };
        for (int[] w : wrong) {
            String call = "step(0, " + w[0] + ", " + w[1] + ", " + w[2] + ")";
            Due.refusedWhole(call, x, Due.ARGUMENT, () -> x.step(0, w[0], w[1], w[2]));
        }
        x.part(3);
        Due.is("a part that there is now", x.step(0, Due.SEND, 2, 0), 1);
    }

    private static void stepStates() {
        Due.sentence("IllegalStateException: AT is not 0, or it is not READY.");
        HouseThreads2 x = Due.withParts(1, 2, 3);
        x.step(0, Due.CHANGE, 0, 1);
        x.step(0, Due.CHANGE, 0, 1);
        x.step(1, Due.CHANGE, 0, 1);
        x.step(2, Due.HEAR, 1, 0);
        Due.turns(x, 0, 1, 2);
        stepIsRefused("READY at AT 1", x, 0);
        stepIsRefused("WAITING at AT 0", x, 1);
        stepIsRefused("LISTENING at AT 0", x, 2);
        x.turn(0);
        stepIsRefused("DONE", x, 0);
        x.fails(1, 0, true);
        x.turn(1);
        stepIsRefused("FAILED at AT 0", x, 1);
        x.close();
        stepIsRefused("ENDED at AT 0", x, 1);
        x.restart(0);
        Due.is("READY at AT 0", x.step(0, Due.CHANGE, 0, 1), 3);

        HouseThreads2 y = Due.withParts(1);
        y.turn(0);
        stepIsRefused("DONE at AT 0, without steps", y, 0);
    }

    private static void stepIsRefused(String when, HouseThreads2 x, int part) {
        Due.refusedWhole("step of one that is " + when, x, Due.STATE, () -> x.step(part, Due.CHANGE, 0, 0));
    }

    private static void failsSteps() {
        Due.sentence("IllegalArgumentException: there is no such step.");
        HouseThreads2 x = Due.withParts(1);
        for (int steps = 0; steps <= 10; steps++) {
            for (int i : new int[] {-1, steps, steps + 1, Integer.MIN_VALUE, Integer.MAX_VALUE}) {
                String call = "fails of step " + i + " of " + steps;
                Due.refusedWhole(call, x, Due.ARGUMENT, () -> x.fails(0, i, true));
                Due.refusedWhole(call, x, Due.ARGUMENT, () -> x.fails(0, i, false));
            }
            if (steps < 10) {
                x.step(0, Due.CHANGE, 0, 1);
            }
        }
        Due.is("no step fails by a refused call", x.run(10), 10);
    }

    private static void turnStates() {
        Due.sentence("IllegalStateException: it is DONE, FAILED or ENDED.");
        HouseThreads2 x = Edges.inAllStates();
        for (int part : new int[] {DONE, FAILED, ENDED}) {
            Due.refusedWhole("turn(" + part + ")", x, Due.STATE, () -> x.turn(part));
        }
        Due.is("READY", x.turn(READY), Due.READY);
        Due.is("WAITING", x.turn(WAITING), Due.WAITING);
        Due.is("LISTENING", x.turn(LISTENING), Due.LISTENING);
    }

    private static void againStates() {
        Due.sentence("IllegalStateException: it is not LOST.");
        HouseThreads2 x = Due.withParts(1, 2);
        x.step(0, Due.SEND, 1, 1);
        x.step(0, Due.SEND, 0, 2);
        x.step(0, Due.SEND, 0, 3);
        x.step(0, Due.HEAR, 0, 0);
        x.step(1, Due.HEAR, 1, 0);
        x.turn(0);
        Due.refusedWhole("again of one ON ITS WAY", x, Due.STATE, () -> x.again(1));
        x.turn(1);
        Due.refusedWhole("again of one HEARD", x, Due.STATE, () -> x.again(1));
        x.losing(true);
        Due.turns(x, 0, 0, 0);
        Due.is("LOST", x.again(2), 0);
        Due.refusedWhole("again of one that is no more LOST", x, Due.STATE, () -> x.again(2));
        x.interrupt(0);
        Due.refusedWhole("again of one WITHDRAWN", x, Due.STATE, () -> x.again(2));
        Due.is("LOST, its sender undone", x.again(3), 0);
    }

    private static void interruptStates() {
        Due.sentence("IllegalStateException: it does neither.");
        HouseThreads2 x = Edges.inAllStates();
        for (int part : new int[] {READY, DONE, FAILED, ENDED}) {
            Due.refusedWhole("interrupt(" + part + ")", x, Due.STATE, () -> x.interrupt(part));
        }
        x.turn(READY);
        Due.refusedWhole("interrupt of one READY at AT 1", x, Due.STATE, () -> x.interrupt(READY));
        Due.is("WAITING", x.interrupt(WAITING), 0);
        Due.is("LISTENING", x.interrupt(LISTENING), 0);
        Due.refusedWhole("interrupt once more", x, Due.STATE, () -> x.interrupt(WAITING));
        Due.refusedWhole("interrupt once more", x, Due.STATE, () -> x.interrupt(LISTENING));
    }

    private static void restartStates() {
        Due.sentence("IllegalStateException: it is neither.");
        HouseThreads2 x = Edges.inAllStates();
        for (int part : new int[] {READY, WAITING, LISTENING, ENDED}) {
            Due.refusedWhole("restart(" + part + ")", x, Due.STATE, () -> x.restart(part));
        }
        x.turn(READY);
        Due.refusedWhole("restart of one READY at AT 1", x, Due.STATE, () -> x.restart(READY));
        x.restart(DONE);
        x.restart(FAILED);
        Due.refusedWhole("restart once more", x, Due.STATE, () -> x.restart(DONE));
        Due.refusedWhole("restart once more", x, Due.STATE, () -> x.restart(FAILED));
    }

    private static void logNumbers() {
        Due.sentence("IllegalArgumentException: there were not so many");
        HouseThreads2 x = Due.withParts(1);
        x.step(0, Due.CHANGE, 0, 1);
        for (int done = 0; done <= 3; done++) {
            for (int i : new int[] {-1, done, done + 1, 399, 400, Integer.MIN_VALUE, Integer.MAX_VALUE}) {
                Due.refusedWhole("log(" + i + ") of " + done, x, Due.ARGUMENT, () -> x.log(i));
            }
            x.turn(0);
            x.restart(0);
        }
    }

    private static void placeNumbers() {
        Due.sentence("Of a place 0 its value, 1 the part that holds it (-1). IllegalArgumentException.");
        HouseThreads2 x = Edges.inAllStates();
        for (int wrong : new int[] {-1, 8, Integer.MIN_VALUE, Integer.MAX_VALUE}) {
            Due.refusedWhole("place(" + wrong + ", 0)", x, Due.ARGUMENT, () -> x.place(wrong, 0));
            Due.refusedWhole("place(" + wrong + ", 1)", x, Due.ARGUMENT, () -> x.place(wrong, 1));
            Due.refusedWhole("place(" + wrong + ", 2)", x, Due.ARGUMENT, () -> x.place(wrong, 2));
        }
        for (int wrong : new int[] {-1, 2, Integer.MIN_VALUE, Integer.MAX_VALUE}) {
            Due.refusedWhole("place(0, " + wrong + ")", x, Due.ARGUMENT, () -> x.place(0, wrong));
            Due.refusedWhole("place(7, " + wrong + ")", x, Due.ARGUMENT, () -> x.place(7, wrong));
        }
    }

    private static void messageNumbers() {
        Due.sentence("1 from, 2 to, 3 its value. NoSuchElementException, IllegalArgumentException.");
        HouseThreads2 x = Edges.withSixtyMessages();
        for (int what : new int[] {-1, 4, Integer.MIN_VALUE, Integer.MAX_VALUE}) {
            Due.refusedWhole("message(1, " + what + ")", x, Due.ARGUMENT, () -> x.message(1, what));
            Due.refusedWhole("message(60, " + what + ")", x, Due.ARGUMENT, () -> x.message(60, what));
        }
    }

    private static void toldNumbers() {
        Due.sentence("6 how often it was undone. NoSuchElementException, IllegalArgumentException.");
        HouseThreads2 x = Edges.inAllStates();
        for (int what : new int[] {-1, 7, Integer.MIN_VALUE, Integer.MAX_VALUE}) {
            Due.refusedWhole("told(0, " + what + ")", x, Due.ARGUMENT, () -> x.told(0, what));
            Due.refusedWhole("told(5, " + what + ")", x, Due.ARGUMENT, () -> x.told(5, what));
        }
    }

    private static void firstThatHoldsOfPart() {
        Due.sentence("REFUSALS, the first that holds: .. IllegalArgumentException .. UnsupportedOperationException:"
                + " no room");
        HouseThreads2 x = Edges.inAllStates();
        Due.refusedWhole("a seventh part", x, Due.NO_ROOM, () -> x.part(9));
        Due.refusedWhole("a seventh part of rank -1", x, Due.ARGUMENT, () -> x.part(-1));
        Due.refusedWhole("a seventh part of rank 10", x, Due.ARGUMENT, () -> x.part(10));
    }

    private static void firstThatHoldsOfStep() {
        Due.sentence("REFUSALS, the first that holds: NoSuchElementException .. IllegalArgumentException ..");
        HouseThreads2 x = Edges.inAllStates();
        Due.refusedWhole("no part, wrong kind", x, Due.NO_SUCH, () -> x.step(6, 3, 0, 0));
        Due.refusedWhole("no part, wrong a", x, Due.NO_SUCH, () -> x.step(-1, Due.SEND, 6, 0));
        Due.refusedWhole("wrong a, no room", x, Due.ARGUMENT, () -> x.step(READY, Due.SEND, 6, 0));
        Due.refusedWhole("wrong b, no room", x, Due.ARGUMENT, () -> x.step(READY, Due.CHANGE, 0, 100));
        Due.refusedWhole("no room", x, Due.NO_ROOM, () -> x.step(READY, Due.CHANGE, 0, 99));
        for (int part : new int[] {WAITING, LISTENING, DONE, FAILED, ENDED}) {
            Due.refusedWhole("part " + part + ", wrong kind", x, Due.ARGUMENT, () -> x.step(part, 3, 0, 0));
            Due.refusedWhole("part " + part + ", wrong b", x, Due.ARGUMENT, () -> x.step(part, Due.HEAR, 0, 1));
            Due.refusedWhole("part " + part + ", no room", x, Due.STATE, () -> x.step(part, Due.CHANGE, 0, 0));
        }
        x.turn(READY);
        Due.refusedWhole("AT 1, wrong a", x, Due.ARGUMENT, () -> x.step(READY, Due.HEAR, 8, 0));
        Due.refusedWhole("AT 1, no room", x, Due.STATE, () -> x.step(READY, Due.HEAR, 7, 0));
    }

    private static void firstThatHoldsOfTheRest() {
        Due.sentence("REFUSALS, the first that holds: NoSuchElementException .. IllegalArgumentException ..");
        HouseThreads2 x = Edges.inAllStates();
        for (int none : new int[] {-1, 6}) {
            Due.refusedWhole("fails: no part, no step", x, Due.NO_SUCH, () -> x.fails(none, -1, true));
            Due.refusedWhole("fails: no part, no step", x, Due.NO_SUCH, () -> x.fails(none, 10, true));
            Due.refusedWhole("told: no part, wrong what", x, Due.NO_SUCH, () -> x.told(none, 7));
            Due.refusedWhole("told: no part, wrong what", x, Due.NO_SUCH, () -> x.told(none, -1));
        }
        HouseThreads2 y = Edges.withSixtyMessages();
        for (int none : new int[] {-1, 0, 61}) {
            Due.refusedWhole("message: none, wrong what", y, Due.NO_SUCH, () -> y.message(none, 4));
            Due.refusedWhole("message: none, wrong what", y, Due.NO_SUCH, () -> y.message(none, -1));
        }
    }
}
