/** Promise 14: message. */
public final class Promise14MessageTest {
    public static void main(String[] args) {
        HouseThreads2 x = Due.withParts(1, 2, 3);
        Due.refused("message(1, 0) before all messages", Due.NO_SUCH, () -> x.message(1, 0));
        x.step(2, Due.SEND, 1, -99);
        x.step(2, Due.SEND, 0, 99);
        x.step(1, Due.SEND, 2, 5);
        x.step(1, Due.SEND, 2, 6);
        x.step(1, Due.HEAR, 0, 0);
        x.step(1, Due.HEAR, 0, 0);
        x.step(0, Due.HEAR, 1, 0);
        x.turn(2);
        x.losing(true);
        x.turn(1);
        x.losing(false);
        x.turn(1);
        x.turn(2);
        x.turn(0);
        x.turn(1);
        row(x, 1, Due.HEARD, 2, 1, -99);
        row(x, 2, Due.LOST, 1, 2, 5);
        row(x, 3, Due.ON_ITS_WAY, 1, 2, 6);
        row(x, 4, Due.HEARD, 2, 0, 99);
        x.turn(1);
        x.interrupt(1);
        row(x, 1, Due.ON_ITS_WAY, 2, 1, -99);
        row(x, 2, Due.LOST, 1, 2, 5);
        row(x, 3, Due.WITHDRAWN, 1, 2, 6);
        row(x, 4, Due.HEARD, 2, 0, 99);
        for (int m : new int[] {0, -1, 5, 60, 61, Integer.MIN_VALUE, Integer.MAX_VALUE}) {
            Due.refused("message(" + m + ", 0)", Due.NO_SUCH, () -> x.message(m, 0));
            Due.refused("message(" + m + ", 4)", Due.NO_SUCH, () -> x.message(m, 4));
        }
        for (int what : new int[] {-1, 4, Integer.MIN_VALUE, Integer.MAX_VALUE}) {
            Due.refused("message(1, " + what + ")", Due.ARGUMENT, () -> x.message(1, what));
        }
        Due.end();
    }

    private static void row(HouseThreads2 x, int message, int... want) {
        for (int what = 0; what < want.length; what++) {
            Due.is("message(" + message + ", " + what + ")", x.message(message, what), want[what]);
        }
    }
}
