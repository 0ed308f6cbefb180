/** Promise 9: interrupt. */
public final class Promise09InterruptTest {
    public static void main(String[] args) {
        refusals();
        interruptsAListener();
        interruptsOneThatWaits();
        interruptsAtTheStart();
        Due.end();
    }

    private static void refusals() {
        HouseThreads2 x = Due.withParts(1);
        for (int part : new int[] {-1, 1, Integer.MIN_VALUE, Integer.MAX_VALUE}) {
            Due.refused("interrupt(" + part + ")", Due.NO_SUCH, () -> x.interrupt(part));
        }
        x.step(0, Due.CHANGE, 0, 1);
        x.step(0, Due.CHANGE, 1, 1);
        Due.refused("READY at AT 0", Due.STATE, () -> x.interrupt(0));
        x.turn(0);
        Due.refused("READY behind AT 0", Due.STATE, () -> x.interrupt(0));
        x.turn(0);
        Due.refused("DONE", Due.STATE, () -> x.interrupt(0));
        x.restart(0);
        x.fails(0, 0, true);
        x.turn(0);
        Due.refused("FAILED", Due.STATE, () -> x.interrupt(0));
        x.close();
        Due.refused("ENDED", Due.STATE, () -> x.interrupt(0));
        Due.is("undone by the failure and the close alone", x.told(0, 6), 2);
        Due.place("nothing was taken back", x, 0, 1, -1);
    }

    private static void interruptsAListener() {
        HouseThreads2 x = Due.withParts(1, 2);
        x.step(0, Due.CHANGE, 0, 4);
        x.step(0, Due.SEND, 1, 5);
        x.step(0, Due.CHANGE, 0, -9);
        x.step(0, Due.HEAR, 3, 0);
        x.run(4);
        Due.place("before", x, 0, -5, 0);
        Due.is("three steps are undone", x.interrupt(0), 3);
        Due.part("interrupted", x, 0, Due.READY, 0, -1, 0);
        Due.place("taken back", x, 0, 0, -1);
        Due.place("the place to hear into is free", x, 3, 0, -1);
        Due.is("withdrawn", x.message(1, 0), Due.WITHDRAWN);
        Due.is("undone once", x.told(0, 6), 1);
        Due.refused("it does not listen any more", Due.STATE, () -> x.interrupt(0));
        Due.is("the act starts anew", x.run(50), 3);
        Due.is("a new message", x.count(1), 2);
    }

    private static void interruptsOneThatWaits() {
        HouseThreads2 x = Due.withParts(1, 2);
        x.step(0, Due.CHANGE, 0, 4);
        x.step(0, Due.HEAR, 1, 0);
        x.step(1, Due.CHANGE, 7, 2);
        x.step(1, Due.CHANGE, 0, 2);
        x.run(2);
        Due.is("one step is undone", x.interrupt(1), 1);
        Due.part("interrupted", x, 1, Due.READY, 0, -1, 0);
        Due.place("taken back", x, 7, 0, -1);
        Due.place("another's place is not", x, 0, 4, 0);
        Due.is("aborted by rings", x.count(3), 0);
    }

    private static void interruptsAtTheStart() {
        HouseThreads2 x = Due.withParts(1, 2);
        x.step(0, Due.HEAR, 1, 0);
        x.step(1, Due.CHANGE, 1, 0);
        x.turn(0);
        x.turn(1);
        Due.is("no step of one that waits", x.interrupt(1), 0);
        Due.is("no step of a listener", x.interrupt(0), 0);
        Due.is("yet it was undone", x.told(0, 6), 1);
        Due.is("yet it was undone", x.told(1, 6), 1);
        Due.place("free", x, 1, 0, -1);
    }
}
