/** The example of README.md, call by call: what it says of each answer must be so. */
public final class ReadmeTest {
    public static void main(String[] args) {
        HouseThreads2 house = new HouseThreads2();
        int cook = house.part(3);
        Due.is("part(3)", cook, 0);
        int maid = house.part(5);
        Due.is("part(5)", maid, 1);
        Due.is("step(cook, 0, 1, 10)", house.step(cook, 0, 1, 10), 1);
        Due.is("step(cook, 1, maid, 7)", house.step(cook, 1, maid, 7), 2);
        Due.is("step(maid, 2, 3, 0)", house.step(maid, 2, 3, 0), 1);
        Due.is("run(2)", house.run(2), 3);
        Due.is("place(3, 0)", house.place(3, 0), 7);
        Due.is("told(maid, 0)", house.told(maid, 0), 3);

        house.restart(cook);
        house.fails(cook, 1, true);
        Due.is("turn(cook)", house.turn(cook), 0);
        Due.is("place(1, 0) while the act goes on", house.place(1, 0), 20);
        Due.is("turn(cook) that fails", house.turn(cook), 4);
        Due.is("place(1, 0) of the act undone", house.place(1, 0), 10);
        Due.is("close()", house.close(), 1);
        Due.is("told(cook, 0)", house.told(cook, 0), 5);
        Due.is("told(maid, 0) after close()", house.told(maid, 0), 3);
        Due.end();
    }
}
