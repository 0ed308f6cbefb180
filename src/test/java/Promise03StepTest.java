/** Promise 3: step. */
public final class Promise03StepTest {
    public static void main(String[] args) {
        takesWhatIsInRange();
        refusesWhatIsNot();
        refusesInOrder();
        refusesWhileTheActGoesOn();
        hasRoomForTen();
        Due.end();
    }

    private static void takesWhatIsInRange() {
        HouseThreads2 x = Due.withParts(1, 2);
        Due.is("change at the lower edges", x.step(0, Due.CHANGE, 0, -99), 1);
        Due.is("change at the upper edges", x.step(0, Due.CHANGE, 7, 99), 2);
        Due.is("send to itself", x.step(0, Due.SEND, 0, -99), 3);
        Due.is("send to the last part", x.step(0, Due.SEND, 1, 99), 4);
        Due.is("hear into place 0", x.step(0, Due.HEAR, 0, 0), 5);
        Due.is("hear into place 7", x.step(0, Due.HEAR, 7, 0), 6);
        Due.is("change by 0", x.step(0, Due.CHANGE, 3, 0), 7);
        Due.is("another part's act", x.step(1, Due.CHANGE, 3, 0), 1);
        Due.is("told(0, 2)", x.told(0, 2), 7);
        Due.is("told(1, 2)", x.told(1, 2), 1);
        x.turn(0);
        x.turn(0);
        Due.place("after the two changes", x, 0, -99, 0);
        Due.place("after the two changes", x, 7, 99, 0);
    }

    private static void refusesWhatIsNot() {
        HouseThreads2 x = Due.withParts(1, 2);
        int[][] bad = {
            {-1, 0, 0}, {3, 0, 0}, {Integer.MIN_VALUE, 0, 0}, {Integer.MAX_VALUE, 0, 0},
            {Due.CHANGE, -1, 0}, {Due.CHANGE, 8, 0}, {Due.CHANGE, 0, -100}, {Due.CHANGE, 0, 100},
            {Due.CHANGE, Integer.MIN_VALUE, 0}, {Due.CHANGE, 0, Integer.MIN_VALUE},
            {Due.SEND, -1, 0}, {Due.SEND, 2, 0}, {Due.SEND, 5, 0}, {Due.SEND, 0, -100}, {Due.SEND, 0, 100},
            {Due.SEND, Integer.MAX_VALUE, 0}, {Due.SEND, 0, Integer.MAX_VALUE},
            {Due.HEAR, -1, 0}, {Due.HEAR, 8, 0}, {Due.HEAR, 0, 1}, {Due.HEAR, 0, -1},
            {Due.HEAR, Integer.MIN_VALUE, 0}, {Due.HEAR, 0, Integer.MIN_VALUE},
        };
        for (int[] s : bad) {
            String call = "step(0, " + s[0] + ", " + s[1] + ", " + s[2] + ")";
            Due.refused(call, Due.ARGUMENT, () -> x.step(0, s[0], s[1], s[2]));
        }
        for (int part : new int[] {-1, 2, 6, Integer.MIN_VALUE, Integer.MAX_VALUE}) {
            Due.refused("step of part " + part, Due.NO_SUCH, () -> x.step(part, Due.CHANGE, 0, 0));
        }
        Due.is("told(0, 2) after refusals", x.told(0, 2), 0);
    }

    private static void refusesInOrder() {
        HouseThreads2 x = Due.withParts(1);
        Due.refused("no part before bad numbers", Due.NO_SUCH, () -> x.step(1, 9, 9, 999));
        for (int i = 1; i <= 10; i++) {
            x.step(0, Due.CHANGE, 0, 1);
        }
        Due.refused("bad numbers before no room", Due.ARGUMENT, () -> x.step(0, Due.CHANGE, 8, 0));
        x.turn(0);
        Due.refused("bad numbers before the state", Due.ARGUMENT, () -> x.step(0, Due.HEAR, 0, 5));
        Due.refused("the state before no room", Due.STATE, () -> x.step(0, Due.CHANGE, 0, 0));
    }

    private static void refusesWhileTheActGoesOn() {
        HouseThreads2 x = Due.withParts(1, 2);
        x.step(0, Due.CHANGE, 0, 1);
        x.step(0, Due.CHANGE, 1, 1);
        x.step(1, Due.CHANGE, 0, 1);
        x.turn(0);
        Due.refused("READY behind AT 0", Due.STATE, () -> x.step(0, Due.CHANGE, 0, 0));
        x.turn(1);
        Due.refused("WAITING at AT 0", Due.STATE, () -> x.step(1, Due.CHANGE, 0, 0));
        x.turn(0);
        Due.refused("DONE", Due.STATE, () -> x.step(0, Due.CHANGE, 0, 0));
        x.restart(0);
        Due.is("READY again", x.step(0, Due.CHANGE, 0, 0), 3);
        x.fails(0, 0, true);
        x.turn(0);
        Due.refused("FAILED", Due.STATE, () -> x.step(0, Due.CHANGE, 0, 0));
        x.close();
        Due.refused("ENDED", Due.STATE, () -> x.step(0, Due.CHANGE, 0, 0));

        HouseThreads2 y = Due.withParts(1);
        y.step(0, Due.HEAR, 0, 0);
        y.turn(0);
        Due.refused("LISTENING at AT 0", Due.STATE, () -> y.step(0, Due.CHANGE, 0, 0));
        y.interrupt(0);
        Due.is("interrupted", y.step(0, Due.CHANGE, 0, 0), 2);

        HouseThreads2 z = Due.withParts(1);
        z.turn(0);
        Due.refused("DONE without steps", Due.STATE, () -> z.step(0, Due.CHANGE, 0, 0));
    }

    private static void hasRoomForTen() {
        HouseThreads2 x = Due.withParts(1, 2, 3, 4, 5, 6);
        for (int part = 0; part < 6; part++) {
            int p = part;
            for (int i = 1; i <= 10; i++) {
                Due.is("step " + i + " of part " + p, x.step(p, Due.CHANGE, p, i), i);
            }
            Due.refused("an eleventh step of part " + p, Due.NO_ROOM, () -> x.step(p, Due.CHANGE, 0, 0));
            Due.is("told(" + p + ", 2)", x.told(p, 2), 10);
        }
        Due.is("all steps are done", x.run(10), 60);
        for (int place = 0; place < 6; place++) {
            Due.place("all done", x, place, 55, -1);
        }
    }
}
