/** Promise 8: again. */
public final class Promise08AgainTest {
    public static void main(String[] args) {
        HouseThreads2 x = Due.withParts(1, 2, 3);
        x.step(0, Due.SEND, 2, 7);
        x.step(0, Due.SEND, 1, 8);
        x.step(0, Due.SEND, 2, 9);
        x.step(2, Due.HEAR, 0, 0);
        Due.refused("again(1) before all messages", Due.NO_SUCH, () -> x.again(1));
        x.losing(true);
        x.turn(0);
        x.turn(0);
        x.losing(false);
        x.turn(0);
        for (int m : new int[] {0, -1, 4, 61, Integer.MIN_VALUE, Integer.MAX_VALUE}) {
            Due.refused("again(" + m + ")", Due.NO_SUCH, () -> x.again(m));
        }
        Due.refused("again of one on its way", Due.STATE, () -> x.again(3));
        x.losing(true);
        Due.is("again(1), losing or not", x.again(1), 2);
        Due.is("it is on its way", x.message(1, 0), Due.ON_ITS_WAY);
        Due.is("the other is not", x.message(2, 0), Due.LOST);
        Due.is("no new message", x.count(1), 3);
        Due.is("on their way", x.count(5), 2);
        Due.refused("again(1) once more", Due.STATE, () -> x.again(1));
        Due.is("it is heard", x.turn(2), Due.DONE);
        Due.place("heard", x, 0, 7, -1);
        Due.refused("again of a HEARD one", Due.STATE, () -> x.again(1));
        Due.is("again(2)", x.again(2), 1);
        Due.is("again is no step", x.count(2), 4);
        undoneSenders();
        Due.end();
    }

    private static void undoneSenders() {
        HouseThreads2 x = Due.withParts(1, 2);
        x.step(0, Due.SEND, 1, 7);
        x.step(0, Due.SEND, 1, 8);
        x.step(0, Due.HEAR, 0, 0);
        x.turn(0);
        x.losing(true);
        x.turn(0);
        x.turn(0);
        x.interrupt(0);
        Due.is("on its way: withdrawn", x.message(1, 0), Due.WITHDRAWN);
        Due.is("lost: stays", x.message(2, 0), Due.LOST);
        Due.refused("again of a WITHDRAWN one", Due.STATE, () -> x.again(1));
        Due.is("again of a lost one whose sender is undone", x.again(2), 1);

        HouseThreads2 y = Due.withParts(1, 2);
        y.step(0, Due.SEND, 1, 7);
        y.step(0, Due.HEAR, 0, 0);
        y.losing(true);
        y.turn(0);
        y.again(1);
        y.turn(0);
        y.interrupt(0);
        Due.is("sent again, then withdrawn", y.message(1, 0), Due.WITHDRAWN);
    }
}
