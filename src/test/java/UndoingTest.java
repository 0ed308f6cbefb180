/** Undoing an act (Terms; promises 4, 9, 11). */
public final class UndoingTest {
    public static void main(String[] args) {
        aHeardMessageIsOnItsWayAgain();
        aMessageThatAnotherHeardStays();
        aMessageToItself();
        severalMessages();
        theValueOfASharedPlace();
        Due.end();
    }

    private static void aHeardMessageIsOnItsWayAgain() {
        HouseThreads2 x = Due.withParts(1, 2);
        x.step(0, Due.SEND, 1, 12);
        x.step(1, Due.HEAR, 4, 0);
        x.step(1, Due.CHANGE, 4, 30);
        x.step(1, Due.HEAR, 5, 0);
        x.run(4);
        Due.place("before", x, 4, 42, 1);
        Due.is("undone", x.interrupt(1), 2);
        Due.place("taken from the place", x, 4, 0, -1);
        Due.place("the place it listened into", x, 5, 0, -1);
        Due.is("on its way again", x.message(1, 0), Due.ON_ITS_WAY);
        Due.is("on their way", x.count(5), 1);
        Due.is("heard again", x.turn(1), Due.READY);
        Due.place("heard again", x, 4, 12, 1);
        Due.is("HEARD", x.message(1, 0), Due.HEARD);
    }

    private static void aMessageThatAnotherHeardStays() {
        HouseThreads2 x = Due.withParts(1, 2);
        x.step(0, Due.SEND, 1, 12);
        x.step(0, Due.CHANGE, 0, 1);
        x.fails(0, 1, true);
        x.step(1, Due.HEAR, 4, 0);
        x.step(1, Due.HEAR, 4, 0);
        x.turn(0);
        x.turn(1);
        Due.is("the sender fails", x.turn(0), Due.FAILED);
        Due.is("the heard message stays", x.message(1, 0), Due.HEARD);
        Due.place("its value too", x, 4, 12, 1);
        Due.is("the hearer listens", x.turn(1), Due.LISTENING);
        x.interrupt(1);
        Due.is("on its way again, though the sender failed", x.message(1, 0), Due.ON_ITS_WAY);
    }

    private static void aMessageToItself() {
        HouseThreads2 x = Due.withParts(1);
        x.step(0, Due.SEND, 0, 12);
        x.step(0, Due.HEAR, 4, 0);
        x.step(0, Due.HEAR, 4, 0);
        x.run(3);
        Due.place("heard", x, 4, 12, 0);
        Due.is("undone", x.interrupt(0), 2);
        Due.is("first on its way, then withdrawn", x.message(1, 0), Due.WITHDRAWN);
        Due.place("taken back", x, 4, 0, -1);
    }

    private static void severalMessages() {
        HouseThreads2 x = Due.withParts(1, 2);
        for (int i = 1; i <= 4; i++) {
            x.step(0, Due.SEND, 1, i);
        }
        x.step(0, Due.HEAR, 0, 0);
        x.step(1, Due.HEAR, 1, 0);
        x.turn(0);
        x.losing(true);
        x.turn(0);
        x.losing(false);
        x.turn(0);
        x.turn(1);
        x.turn(0);
        x.turn(0);
        Due.is("four sends are undone", x.interrupt(0), 4);
        int[] states = {Due.HEARD, Due.LOST, Due.WITHDRAWN, Due.WITHDRAWN};
        for (int i = 0; i < states.length; i++) {
            Due.is("message " + (i + 1), x.message(i + 1, 0), states[i]);
        }
        Due.place("the hearer is done", x, 1, 1, -1);
        x.restart(1);
        Due.is("a withdrawn one is not heard", x.turn(1), Due.LISTENING);
    }

    private static void theValueOfASharedPlace() {
        HouseThreads2 x = Due.withParts(1, 2);
        x.step(0, Due.CHANGE, 0, 7);
        x.step(1, Due.CHANGE, 0, 50);
        x.step(1, Due.CHANGE, 0, -99);
        x.step(1, Due.HEAR, 0, 0);
        x.turn(0);
        x.turn(1);
        x.turn(1);
        x.turn(1);
        Due.place("before", x, 0, -42, 1);
        Due.is("undone", x.interrupt(1), 2);
        Due.place("another's change stays", x, 0, 7, -1);
    }
}
