/** Promise 7: run. */
public final class Promise07RunTest {
    public static void main(String[] args) {
        refusals();
        roundsGoUpward();
        countsStepsAlone();
        passesOverWhoMayNot();
        fiftyRounds();
        Due.end();
    }

    private static void refusals() {
        HouseThreads2 x = Due.withParts(1);
        x.step(0, Due.CHANGE, 0, 1);
        for (int rounds : new int[] {-1, 51, Integer.MIN_VALUE, Integer.MAX_VALUE}) {
            Due.refused("run(" + rounds + ")", Due.ARGUMENT, () -> x.run(rounds));
        }
        Due.is("run(0)", x.run(0), 0);
        Due.part("no round yet", x, 0, Due.READY, 0, -1, 0);
        Due.is("run(50)", x.run(50), 1);
        Due.is("run(50) of a DONE part", x.run(50), 0);
    }

    private static void roundsGoUpward() {
        HouseThreads2 x = Due.withParts(1, 2, 3);
        for (int part = 2; part >= 0; part--) {
            x.step(part, Due.CHANGE, part, 1);
            x.step(part, Due.CHANGE, part, 1);
        }
        Due.is("run(1)", x.run(1), 3);
        Due.is("run(1)", x.run(1), 3);
        int[] log = {0, 100, 200, 1, 101, 201};
        for (int i = 0; i < log.length; i++) {
            Due.is("log(" + i + ")", x.log(i), log[i]);
        }
        Due.is("all done", x.count(4), 3);

        HouseThreads2 y = Due.withParts(1, 2);
        y.step(0, Due.SEND, 1, 5);
        y.step(1, Due.HEAR, 0, 0);
        Due.is("sent and heard in one round", y.run(1), 2);

        HouseThreads2 z = Due.withParts(1, 2);
        z.step(0, Due.HEAR, 0, 0);
        z.step(1, Due.SEND, 0, 5);
        Due.is("sent behind the listener's turn", z.run(1), 1);
        Due.is("heard in the next round", z.run(1), 1);
    }

    private static void countsStepsAlone() {
        HouseThreads2 x = Due.withParts(1, 2, 3, 4);
        x.step(0, Due.CHANGE, 0, 1);
        x.step(0, Due.HEAR, 1, 0);
        x.step(1, Due.CHANGE, 0, 1);
        x.step(2, Due.CHANGE, 2, 1);
        x.step(2, Due.CHANGE, 3, 1);
        x.fails(2, 1, true);
        Due.is("waits, listening, failures and an act without steps are none", x.run(50), 2);
        Due.is("told(0, 0)", x.told(0, 0), Due.LISTENING);
        Due.is("told(1, 0)", x.told(1, 0), Due.WAITING);
        Due.is("told(2, 0)", x.told(2, 0), Due.FAILED);
        Due.is("told(3, 0)", x.told(3, 0), Due.DONE);
        Due.is("steps done, the undone one too", x.count(2), 2);
    }

    private static void passesOverWhoMayNot() {
        HouseThreads2 x = Due.withParts(1, 2, 3);
        x.close();
        x.part(4);
        x.step(3, Due.CHANGE, 0, 1);
        Due.is("ENDED ones have no turn", x.run(3), 1);
        Due.is("told(0, 0)", x.told(0, 0), Due.ENDED);
        Due.is("told(3, 0)", x.told(3, 0), Due.DONE);
    }

    private static void fiftyRounds() {
        HouseThreads2 x = Due.withParts(9, 1);
        x.step(0, Due.CHANGE, 0, 1);
        x.step(0, Due.HEAR, 5, 0);
        x.step(1, Due.CHANGE, 1, 1);
        x.step(1, Due.CHANGE, 2, 1);
        x.step(1, Due.CHANGE, 0, 1);
        Due.is("all that can be done", x.run(50), 3);
        Due.part("1 waits for a listener", x, 1, Due.WAITING, 2, 0, 2);
        Due.is("nothing more", x.run(50), 0);

        HouseThreads2 y = Due.withParts(9, 1);
        for (int i = 0; i < 10; i++) {
            y.step(0, Due.CHANGE, 0, 1);
            y.step(1, Due.CHANGE, 1, 1);
        }
        Due.is("nine rounds", y.run(9), 18);
        Due.is("not done yet", y.count(4), 0);
        Due.is("the tenth round", y.run(1), 2);
        Due.is("done", y.count(4), 2);
    }
}
