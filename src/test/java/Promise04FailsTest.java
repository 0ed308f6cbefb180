/** Promise 4: fails, and how a failing step is tried. */
public final class Promise04FailsTest {
    public static void main(String[] args) {
        refusals();
        failsOnceWhenItIsTried();
        canBeTakenBack();
        failsBeforeAllElse();
        staysUntilItIsTried();
        Due.end();
    }

    private static void refusals() {
        HouseThreads2 x = Due.withParts(1, 2);
        x.step(0, Due.CHANGE, 0, 1);
        x.step(0, Due.CHANGE, 1, 1);
        for (int i : new int[] {-1, 2, 10, Integer.MIN_VALUE, Integer.MAX_VALUE}) {
            Due.refused("fails(0, " + i + ", true)", Due.ARGUMENT, () -> x.fails(0, i, true));
            Due.refused("fails(0, " + i + ", false)", Due.ARGUMENT, () -> x.fails(0, i, false));
        }
        Due.refused("fails without steps", Due.ARGUMENT, () -> x.fails(1, 0, true));
        for (int part : new int[] {-1, 2, Integer.MIN_VALUE, Integer.MAX_VALUE}) {
            Due.refused("fails of part " + part, Due.NO_SUCH, () -> x.fails(part, 99, true));
        }
        Due.is("nothing fails after refusals", x.run(2), 2);
    }

    private static void failsOnceWhenItIsTried() {
        HouseThreads2 x = Due.withParts(1, 2);
        x.step(0, Due.CHANGE, 0, 4);
        x.step(0, Due.SEND, 1, 6);
        x.step(0, Due.CHANGE, 1, 5);
        x.fails(0, 2, true);
        Due.is("step 0", x.turn(0), Due.READY);
        Due.is("step 1", x.turn(0), Due.READY);
        Due.is("step 2 fails", x.turn(0), Due.FAILED);
        Due.part("failed", x, 0, Due.FAILED, 0, -1, 0);
        Due.is("undone once", x.told(0, 6), 1);
        Due.place("failed", x, 0, 0, -1);
        Due.place("failed", x, 1, 0, -1);
        Due.is("its message", x.message(1, 0), Due.WITHDRAWN);
        Due.is("steps done", x.count(2), 2);
        x.restart(0);
        Due.is("it fails once alone", x.run(3), 3);
        Due.part("done", x, 0, Due.DONE, 3, -1, 0);
        Due.place("done", x, 1, 5, -1);
    }

    private static void canBeTakenBack() {
        HouseThreads2 x = Due.withParts(1);
        x.step(0, Due.CHANGE, 0, 4);
        x.fails(0, 0, true);
        x.fails(0, 0, true);
        x.fails(0, 0, false);
        Due.is("told not to fail", x.turn(0), Due.DONE);
    }

    private static void failsBeforeAllElse() {
        HouseThreads2 x = Due.withParts(1, 2);
        x.step(0, Due.CHANGE, 0, 4);
        x.step(0, Due.CHANGE, 1, 4);
        x.step(1, Due.CHANGE, 0, 4);
        x.turn(0);
        x.fails(1, 0, true);
        Due.is("a held place does not make it wait", x.turn(1), Due.FAILED);
        x.restart(1);
        Due.is("now it waits", x.turn(1), Due.WAITING);
        x.fails(1, 0, true);
        Due.is("a waiting one fails too", x.turn(1), Due.FAILED);
        Due.part("failed", x, 1, Due.FAILED, 0, -1, 0);
        Due.is("undone twice", x.told(1, 6), 2);

        HouseThreads2 y = Due.withParts(1);
        y.step(0, Due.HEAR, 3, 0);
        Due.is("it listens", y.turn(0), Due.LISTENING);
        y.fails(0, 0, true);
        Due.is("a listening one fails too", y.turn(0), Due.FAILED);
        Due.place("failed listener", y, 3, 0, -1);

        HouseThreads2 z = Due.withParts(1);
        z.step(0, Due.SEND, 0, 3);
        z.fails(0, 0, true);
        Due.is("a send fails", z.turn(0), Due.FAILED);
        Due.is("nothing was sent", z.count(1), 0);
    }

    private static void staysUntilItIsTried() {
        HouseThreads2 x = Due.withParts(1);
        x.step(0, Due.HEAR, 0, 0);
        x.step(0, Due.CHANGE, 1, 1);
        x.turn(0);
        x.fails(0, 1, true);
        x.interrupt(0);
        x.step(0, Due.CHANGE, 2, 1);
        x.part(2);
        x.step(1, Due.SEND, 0, 8);
        x.turn(1);
        Due.is("step 0 is heard", x.turn(0), Due.READY);
        Due.is("step 1 still fails after the interrupt", x.turn(0), Due.FAILED);
        x.fails(0, 2, true);
        x.restart(0);
        Due.is("two steps, then step 2 fails", x.run(5), 2);
        Due.is("failed again", x.told(0, 0), Due.FAILED);
    }
}
