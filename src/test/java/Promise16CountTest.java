/** Promise 16: count. */
public final class Promise16CountTest {
    public static void main(String[] args) {
        HouseThreads2 x = Due.withParts(1, 2, 3, 4);
        row(x, 4, 0, 0, 0, 0, 0);
        x.step(0, Due.CHANGE, 0, 1);
        x.step(0, Due.CHANGE, 1, 1);
        x.step(1, Due.CHANGE, 1, 1);
        x.step(1, Due.CHANGE, 0, 1);
        x.step(2, Due.SEND, 3, 1);
        x.step(2, Due.SEND, 3, 2);
        x.step(3, Due.HEAR, 7, 0);
        x.step(3, Due.HEAR, 7, 0);
        x.run(1);
        row(x, 4, 1, 4, 0, 0, 0);
        x.losing(true);
        x.run(1);
        row(x, 4, 2, 5, 1, 1, 0);
        x.interrupt(3);
        row(x, 4, 2, 5, 1, 1, 1);
        x.run(50);
        row(x, 4, 2, 10, 2, 3, 0);
        x.restart(2);
        row(x, 4, 2, 10, 2, 2, 0);
        x.again(2);
        row(x, 4, 2, 10, 2, 2, 1);
        x.close();
        row(x, 4, 2, 10, 2, 2, 2);
        for (int what : new int[] {-1, 6, 7, Integer.MIN_VALUE, Integer.MAX_VALUE}) {
            Due.is("count(" + what + ")", x.count(what), -1);
        }
        Due.end();
    }

    private static void row(HouseThreads2 x, int... want) {
        for (int what = 0; what < want.length; what++) {
            Due.is("count(" + what + ")", x.count(what), want[what]);
        }
    }
}
