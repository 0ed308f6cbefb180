/** "An object is used for at most 512 calls after it has been made": what it answers behind so many heavy ones. */
public final class LongUseTest {
    public static void main(String[] args) {
        Due.sentence("An object is used for at most 512 calls after it has been made");
        changesAllTheTime(99);
        changesAllTheTime(-99);
        roundsAllTheTime();
        Due.end();
    }

    /** 6 + 60 calls to build, then 62 acts of all parts at 7 calls each, and the last calls ask. */
    private static void changesAllTheTime(int by) {
        HouseThreads2 x = Due.withParts(0, 1, 2, 3, 4, 5);
        for (int part = 0; part < 6; part++) {
            for (int i = 0; i < 10; i++) {
                x.step(part, Due.CHANGE, part, by);
            }
        }
        for (int act = 0; act < 62; act++) {
            Due.is("run(50)", x.run(50), 60);
            for (int part = 0; part < 6; part++) {
                x.restart(part);
            }
        }
        Due.is("count(2)", x.count(2), 3720);
        for (int place = 0; place < 6; place++) {
            Due.is("place(" + place + ", 0)", x.place(place, 0), 620L * by);
        }
        Due.is("log(399)", x.log(399), 306);
        Due.refused("log(400)", Due.ARGUMENT, () -> x.log(400));
        Due.is("close()", x.close(), 6);
    }

    /** A part waits, one listens and one listens to no end: 500 runs of 50 rounds do no step. */
    private static void roundsAllTheTime() {
        HouseThreads2 x = Due.withParts(1, 2, 3);
        x.step(0, Due.HEAR, 0, 0);
        x.step(1, Due.CHANGE, 0, 1);
        x.step(2, Due.HEAR, 2, 0);
        for (int i = 0; i < 500; i++) {
            Due.is("run(50)", x.run(50), 0);
        }
        Due.part("it listens on", x, 0, Due.LISTENING, 0, -1, 1);
        Due.part("it waits on", x, 1, Due.WAITING, 0, 0, 0);
        Due.is("count(2)", x.count(2), 0);
    }
}
