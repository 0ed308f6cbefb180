/** Promise 11: close. */
public final class Promise11CloseTest {
    public static void main(String[] args) {
        endsAllButDoneOnes();
        goesUpward();
        Due.end();
    }

    private static void endsAllButDoneOnes() {
        HouseThreads2 x = Due.withParts(1, 2, 3, 4, 5, 6);
        x.step(0, Due.CHANGE, 0, 5);
        x.step(0, Due.CHANGE, 1, 5);
        x.step(1, Due.CHANGE, 2, 5);
        x.step(1, Due.CHANGE, 0, 5);
        x.step(2, Due.SEND, 0, 5);
        x.step(2, Due.HEAR, 3, 0);
        x.step(3, Due.CHANGE, 4, 5);
        x.step(4, Due.CHANGE, 5, 5);
        x.fails(4, 0, true);
        x.step(5, Due.CHANGE, 6, 5);
        x.turn(0);
        x.turn(1);
        x.turn(1);
        x.turn(2);
        x.turn(2);
        x.turn(3);
        x.turn(4);
        int[] states = {Due.READY, Due.WAITING, Due.LISTENING, Due.DONE, Due.FAILED, Due.READY};
        for (int i = 0; i < 6; i++) {
            Due.is("before: told(" + i + ", 0)", x.told(i, 0), states[i]);
        }
        Due.is("close()", x.close(), 5);
        int[] undone = {1, 1, 1, 0, 2, 1};
        for (int i = 0; i < 6; i++) {
            Due.part("closed", x, i, i == 3 ? Due.DONE : Due.ENDED, i == 3 ? 1 : 0, -1, 0);
            Due.is("told(" + i + ", 6)", x.told(i, 6), undone[i]);
        }
        for (int place = 0; place < 8; place++) {
            Due.place("closed", x, place, place == 4 ? 5 : 0, -1);
        }
        Due.is("the message was withdrawn", x.message(1, 0), Due.WITHDRAWN);
        Due.is("close() again", x.close(), 0);
        Due.is("not undone again", x.told(0, 6), 1);
        Due.is("aborted by rings", x.count(3), 0);
        Due.is("DONE ones", x.count(4), 1);
        Due.is("the log stays", x.count(2), 4);
        Due.is("the log stays", x.log(1), 100);
        x.restart(3);
        Due.is("close() with one READY", x.close(), 1);
        Due.is("ENDED", x.told(3, 0), Due.ENDED);
        Due.place("its done act stays", x, 4, 5, -1);
    }

    /** The sender is undone before the hearer: the message stays for the one and is then on its way again. */
    private static void goesUpward() {
        HouseThreads2 x = Due.withParts(1, 2);
        x.step(0, Due.SEND, 1, 5);
        x.step(0, Due.CHANGE, 0, 1);
        x.step(1, Due.HEAR, 1, 0);
        x.step(1, Due.CHANGE, 2, 1);
        x.run(1);
        Due.is("close()", x.close(), 2);
        Due.place("taken back", x, 1, 0, -1);
        Due.is("on its way again", x.message(1, 0), Due.ON_ITS_WAY);

        HouseThreads2 y = Due.withParts(1, 2);
        y.step(1, Due.SEND, 0, 5);
        y.step(1, Due.CHANGE, 0, 1);
        y.step(0, Due.HEAR, 1, 0);
        y.step(0, Due.CHANGE, 2, 1);
        y.turn(1);
        y.turn(0);
        Due.is("close()", y.close(), 2);
        Due.is("on its way again, then withdrawn", y.message(1, 0), Due.WITHDRAWN);
    }
}
