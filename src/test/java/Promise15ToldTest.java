/** Promise 15: told. */
public final class Promise15ToldTest {
    public static void main(String[] args) {
        HouseThreads2 x = Due.withParts(9, 0, 4);
        x.step(0, Due.CHANGE, 7, 1);
        x.step(0, Due.CHANGE, 6, 1);
        x.step(0, Due.CHANGE, 7, 1);
        x.step(0, Due.HEAR, 5, 0);
        x.step(1, Due.CHANGE, 0, 1);
        x.step(1, Due.CHANGE, 6, 1);
        row(x, 0, Due.READY, 9, 4, 0, -1, 0, 0);
        row(x, 1, Due.READY, 0, 2, 0, -1, 0, 0);
        row(x, 2, Due.READY, 4, 0, 0, -1, 0, 0);
        x.run(2);
        row(x, 0, Due.READY, 9, 4, 2, -1, 2, 0);
        row(x, 1, Due.WAITING, 0, 2, 1, 6, 1, 0);
        row(x, 2, Due.DONE, 4, 0, 0, -1, 0, 0);
        x.run(2);
        row(x, 0, Due.LISTENING, 9, 4, 3, -1, 3, 0);
        x.interrupt(0);
        row(x, 0, Due.READY, 9, 4, 0, -1, 0, 1);
        x.turn(1);
        row(x, 1, Due.DONE, 0, 2, 2, -1, 0, 0);
        x.fails(0, 1, true);
        x.run(2);
        row(x, 0, Due.FAILED, 9, 4, 0, -1, 0, 2);
        x.close();
        row(x, 0, Due.ENDED, 9, 4, 0, -1, 0, 3);
        row(x, 1, Due.DONE, 0, 2, 2, -1, 0, 0);
        waitsForPlace0();
        refusals(x);
        Due.end();
    }

    private static void waitsForPlace0() {
        HouseThreads2 x = Due.withParts(1, 2);
        x.step(0, Due.HEAR, 0, 0);
        x.step(1, Due.HEAR, 0, 0);
        x.run(1);
        row(x, 0, Due.LISTENING, 1, 1, 0, -1, 1, 0);
        row(x, 1, Due.WAITING, 2, 1, 0, 0, 0, 0);
        x.close();
        row(x, 1, Due.ENDED, 2, 1, 0, -1, 0, 1);
    }

    private static void refusals(HouseThreads2 x) {
        for (int part : new int[] {-1, 3, 6, Integer.MIN_VALUE, Integer.MAX_VALUE}) {
            Due.refused("told(" + part + ", 0)", Due.NO_SUCH, () -> x.told(part, 0));
            Due.refused("told(" + part + ", 7)", Due.NO_SUCH, () -> x.told(part, 7));
        }
        for (int what : new int[] {-1, 7, Integer.MIN_VALUE, Integer.MAX_VALUE}) {
            Due.refused("told(0, " + what + ")", Due.ARGUMENT, () -> x.told(0, what));
        }
    }

    private static void row(HouseThreads2 x, int part, int... want) {
        for (int what = 0; what < want.length; what++) {
            Due.is("told(" + part + ", " + what + ")", x.told(part, what), want[what]);
        }
    }
}
