/** Promise 6: turn, with all that a turn's steps do. */
public final class Promise06TurnTest {
    public static void main(String[] args) {
        refusals();
        changes();
        waits();
        sends();
        hears();
        hearsTheFirstOnItsWay();
        failsBehindSixtyMessages();
        withoutSteps();
        Due.end();
    }

    private static void refusals() {
        HouseThreads2 x = Due.withParts(1, 2);
        for (int part : new int[] {-1, 2, 6, Integer.MIN_VALUE, Integer.MAX_VALUE}) {
            Due.refused("turn(" + part + ")", Due.NO_SUCH, () -> x.turn(part));
        }
        x.step(0, Due.CHANGE, 0, 1);
        x.turn(0);
        Due.refused("turn of a DONE part", Due.STATE, () -> x.turn(0));
        x.restart(0);
        x.fails(0, 0, true);
        x.turn(0);
        Due.refused("turn of a FAILED part", Due.STATE, () -> x.turn(0));
        x.close();
        Due.refused("turn of an ENDED part", Due.STATE, () -> x.turn(0));
        Due.refused("turn of an ENDED part", Due.STATE, () -> x.turn(1));
        Due.place("refused turns change nothing", x, 0, 1, -1);
    }

    private static void changes() {
        HouseThreads2 x = Due.withParts(1);
        x.step(0, Due.CHANGE, 2, 30);
        x.step(0, Due.CHANGE, 2, -50);
        x.step(0, Due.CHANGE, 5, 0);
        x.step(0, Due.CHANGE, 6, 1);
        Due.is("first change", x.turn(0), Due.READY);
        Due.part("first change", x, 0, Due.READY, 1, -1, 1);
        Due.place("first change", x, 2, 30, 0);
        Due.is("its own place again", x.turn(0), Due.READY);
        Due.part("its own place again", x, 0, Due.READY, 2, -1, 1);
        Due.place("its own place again", x, 2, -20, 0);
        Due.is("a change by 0", x.turn(0), Due.READY);
        Due.place("a change by 0 holds too", x, 5, 0, 0);
        Due.part("a change by 0", x, 0, Due.READY, 3, -1, 2);
        Due.is("last change", x.turn(0), Due.DONE);
        Due.part("last change", x, 0, Due.DONE, 4, -1, 0);
        Due.place("done", x, 2, -20, -1);
        Due.place("done", x, 5, 0, -1);
        Due.place("done", x, 6, 1, -1);
        Due.is("never undone", x.told(0, 6), 0);
    }

    private static void waits() {
        HouseThreads2 x = Due.withParts(1, 2, 3);
        x.step(0, Due.CHANGE, 4, 1);
        x.step(0, Due.CHANGE, 4, 1);
        x.step(1, Due.CHANGE, 3, 5);
        x.step(1, Due.CHANGE, 4, 10);
        x.step(2, Due.HEAR, 4, 0);
        x.turn(0);
        x.turn(1);
        Due.is("change of a held place", x.turn(1), Due.WAITING);
        Due.part("waits", x, 1, Due.WAITING, 1, 4, 1);
        Due.is("hear into a held place", x.turn(2), Due.WAITING);
        Due.part("waits", x, 2, Due.WAITING, 0, 4, 0);
        Due.is("it waits on", x.turn(1), Due.WAITING);
        Due.place("while they wait", x, 4, 1, 0);
        Due.is("the holder is done", x.turn(0), Due.DONE);
        Due.part("waits for a free place until its turn", x, 1, Due.WAITING, 1, 4, 1);
        Due.is("the place is its own now", x.turn(2), Due.LISTENING);
        Due.part("listens", x, 2, Due.LISTENING, 0, -1, 1);
        Due.is("the next one holds it", x.turn(1), Due.WAITING);
        x.interrupt(2);
        Due.is("the place is free again", x.turn(1), Due.DONE);
        Due.place("done", x, 4, 12, -1);
        Due.place("done", x, 3, 5, -1);
        Due.is("waiting is no step", x.count(2), 4);
        Due.is("no ring", x.count(3), 0);
    }

    private static void sends() {
        HouseThreads2 x = Due.withParts(1, 2);
        x.step(0, Due.SEND, 1, -42);
        x.step(0, Due.SEND, 0, 99);
        Due.is("first send", x.turn(0), Due.READY);
        Due.is("a part may send to itself", x.turn(0), Due.DONE);
        int[][] want = {{Due.ON_ITS_WAY, 0, 1, -42}, {Due.ON_ITS_WAY, 0, 0, 99}};
        for (int m = 0; m < 2; m++) {
            for (int what = 0; what < 4; what++) {
                Due.is("message(" + (m + 1) + ", " + what + ")", x.message(m + 1, what), want[m][what]);
            }
        }
        Due.is("a send holds no place", x.told(0, 5), 0);
    }

    private static void hears() {
        HouseThreads2 x = Due.withParts(1, 2);
        x.step(0, Due.HEAR, 6, 0);
        x.step(0, Due.HEAR, 6, 0);
        x.step(1, Due.SEND, 0, 11);
        x.step(1, Due.SEND, 1, 70);
        x.step(1, Due.SEND, 0, -30);
        Due.is("nothing to hear", x.turn(0), Due.LISTENING);
        Due.part("listens", x, 0, Due.LISTENING, 0, -1, 1);
        Due.place("listens", x, 6, 0, 0);
        Due.is("it listens on", x.turn(0), Due.LISTENING);
        x.turn(1);
        Due.part("listens until its turn", x, 0, Due.LISTENING, 0, -1, 1);
        Due.is("a message is heard", x.turn(0), Due.READY);
        Due.is("it is HEARD", x.message(1, 0), Due.HEARD);
        Due.place("heard", x, 6, 11, 0);
        x.turn(1);
        Due.is("a message to another is not heard", x.turn(0), Due.LISTENING);
        x.turn(1);
        Due.is("the next message is heard", x.turn(0), Due.DONE);
        Due.place("heard", x, 6, -19, -1);
        Due.is("the other's message", x.message(2, 0), Due.ON_ITS_WAY);
        Due.is("listening is no step", x.count(2), 5);
    }

    private static void hearsTheFirstOnItsWay() {
        HouseThreads2 x = Due.withParts(1, 2);
        x.step(0, Due.SEND, 1, 1);
        x.step(0, Due.SEND, 1, 2);
        x.step(0, Due.SEND, 1, 4);
        for (int i = 0; i < 3; i++) {
            x.step(1, Due.HEAR, 0, 0);
        }
        x.losing(true);
        x.turn(0);
        x.losing(false);
        x.turn(0);
        x.turn(0);
        x.turn(1);
        Due.place("the lost one is passed over", x, 0, 2, 1);
        x.again(1);
        x.turn(1);
        Due.place("the first by number, once it is on its way", x, 0, 3, 1);
        x.turn(1);
        Due.place("the last one", x, 0, 7, -1);
    }

    private static void failsBehindSixtyMessages() {
        HouseThreads2 x = Due.withParts(1, 2);
        x.step(0, Due.CHANGE, 0, 1);
        for (int i = 0; i < 9; i++) {
            x.step(0, Due.SEND, 1, i);
        }
        for (int act = 0; act < 6; act++) {
            x.run(10);
            Due.is("act " + act, x.told(0, 0), Due.DONE);
            x.restart(0);
        }
        Due.is("messages", x.count(1), 54);
        Due.is("change and six sends are done", x.run(7), 7);
        Due.is("messages", x.count(1), 60);
        Due.place("before it fails", x, 0, 7, 0);
        Due.is("a sixty-first fails", x.turn(0), Due.FAILED);
        Due.place("undone", x, 0, 6, -1);
        Due.part("undone", x, 0, Due.FAILED, 0, -1, 0);
        Due.is("messages", x.count(1), 60);
        Due.is("message 54", x.message(54, 0), Due.ON_ITS_WAY);
        Due.is("message 55", x.message(55, 0), Due.WITHDRAWN);
        Due.is("message 60", x.message(60, 0), Due.WITHDRAWN);
        Due.is("on their way", x.count(5), 54);
        Due.refused("message(61, 0)", Due.NO_SUCH, () -> x.message(61, 0));
        x.restart(0);
        x.turn(0);
        Due.is("withdrawn ones make no room", x.turn(0), Due.FAILED);
        Due.is("undone twice", x.told(0, 6), 2);
    }

    private static void withoutSteps() {
        HouseThreads2 x = Due.withParts(1);
        Due.is("without steps it is DONE", x.turn(0), Due.DONE);
        Due.part("without steps", x, 0, Due.DONE, 0, -1, 0);
        Due.is("no step was done", x.count(2), 0);
        Due.is("DONE ones", x.count(4), 1);
        Due.refused("log(0)", Due.ARGUMENT, () -> x.log(0));
    }
}
