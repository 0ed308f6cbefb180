/** Promise 10: restart. */
public final class Promise10RestartTest {
    public static void main(String[] args) {
        refusals();
        restartsADoneOne();
        restartsAFailedOne();
        whatWasDoneBeforeStays();
        Due.end();
    }

    private static void refusals() {
        HouseThreads2 x = Due.withParts(1, 2);
        for (int part : new int[] {-1, 2, Integer.MIN_VALUE, Integer.MAX_VALUE}) {
            Due.refused("restart(" + part + ")", Due.NO_SUCH, () -> x.restart(part));
        }
        x.step(0, Due.CHANGE, 0, 1);
        x.step(0, Due.HEAR, 1, 0);
        x.step(1, Due.CHANGE, 0, 1);
        Due.refused("READY at AT 0", Due.STATE, () -> x.restart(0));
        x.turn(0);
        Due.refused("READY behind AT 0", Due.STATE, () -> x.restart(0));
        x.turn(0);
        Due.refused("LISTENING", Due.STATE, () -> x.restart(0));
        x.turn(1);
        Due.refused("WAITING", Due.STATE, () -> x.restart(1));
        Due.part("nothing changed", x, 0, Due.LISTENING, 1, -1, 2);
        x.close();
        Due.refused("ENDED", Due.STATE, () -> x.restart(0));
    }

    private static void restartsADoneOne() {
        HouseThreads2 x = Due.withParts(1, 2);
        x.step(0, Due.CHANGE, 0, 3);
        x.step(0, Due.SEND, 1, 3);
        x.run(2);
        x.restart(0);
        Due.part("READY again", x, 0, Due.READY, 0, -1, 0);
        Due.place("what was done stays", x, 0, 3, -1);
        Due.is("its message stays", x.message(1, 0), Due.ON_ITS_WAY);
        Due.is("not undone", x.told(0, 6), 0);
        Due.refused("it is READY", Due.STATE, () -> x.restart(0));
        Due.is("the act is done again", x.run(2), 2);
        Due.place("done twice", x, 0, 6, -1);
        Due.is("sent twice", x.count(1), 2);

        HouseThreads2 y = Due.withParts(1);
        y.turn(0);
        y.restart(0);
        Due.is("without steps", y.turn(0), Due.DONE);
        y.close();
        y.restart(0);
        Due.is("DONE ones outlive a close", y.told(0, 0), Due.READY);
    }

    private static void restartsAFailedOne() {
        HouseThreads2 x = Due.withParts(1);
        x.step(0, Due.CHANGE, 0, 3);
        x.fails(0, 0, true);
        x.turn(0);
        x.restart(0);
        Due.part("READY again", x, 0, Due.READY, 0, -1, 0);
        Due.is("undone by the failure alone", x.told(0, 6), 1);
        Due.is("done", x.turn(0), Due.DONE);
    }

    private static void whatWasDoneBeforeStays() {
        HouseThreads2 x = Due.withParts(1, 2);
        x.step(0, Due.CHANGE, 0, 3);
        x.step(0, Due.SEND, 1, 1);
        x.step(0, Due.HEAR, 2, 0);
        x.step(1, Due.SEND, 0, 50);
        x.turn(1);
        x.run(3);
        Due.is("the first act is done", x.told(0, 0), Due.DONE);
        x.restart(0);
        x.run(3);
        Due.is("the second one listens", x.told(0, 0), Due.LISTENING);
        Due.is("two steps are undone", x.interrupt(0), 2);
        Due.place("the first act's change stays", x, 0, 3, -1);
        Due.place("what the first act heard stays", x, 2, 50, -1);
        Due.is("the first act's message stays", x.message(2, 0), Due.ON_ITS_WAY);
        Due.is("the second one's does not", x.message(3, 0), Due.WITHDRAWN);
        Due.is("the heard one stays", x.message(1, 0), Due.HEARD);
    }
}
