/** Promise 12: log. */
public final class Promise12LogTest {
    public static void main(String[] args) {
        tellsPartAndStep();
        undoneStepsStay();
        tellsTheFirst400Alone();
        Due.end();
    }

    private static void tellsPartAndStep() {
        HouseThreads2 x = Due.withParts(1, 2, 3, 4, 5, 6);
        for (int i = 0; i < 10; i++) {
            x.step(5, Due.CHANGE, 0, 1);
        }
        x.step(2, Due.SEND, 5, 1);
        x.step(2, Due.HEAR, 1, 0);
        for (int i : new int[] {0, -1, Integer.MIN_VALUE, Integer.MAX_VALUE}) {
            Due.refused("log(" + i + ") before all steps", Due.ARGUMENT, () -> x.log(i));
        }
        x.turn(2);
        x.turn(2);
        x.run(50);
        Due.is("log(0)", x.log(0), 200);
        for (int i = 0; i < 10; i++) {
            Due.is("log(" + (i + 1) + ")", x.log(i + 1), 500 + i);
        }
        for (int i : new int[] {-1, 11, 399, 400, Integer.MIN_VALUE, Integer.MAX_VALUE}) {
            Due.refused("log(" + i + ")", Due.ARGUMENT, () -> x.log(i));
        }
    }

    private static void undoneStepsStay() {
        HouseThreads2 x = Due.withParts(1, 2);
        x.step(1, Due.CHANGE, 0, 1);
        x.step(1, Due.HEAR, 1, 0);
        x.run(3);
        x.interrupt(1);
        x.turn(1);
        Due.is("log(0)", x.log(0), 100);
        Due.is("log(1)", x.log(1), 100);
        Due.refused("log(2)", Due.ARGUMENT, () -> x.log(2));
    }

    private static void tellsTheFirst400Alone() {
        HouseThreads2 x = Due.withParts(1, 2, 3, 4, 5);
        for (int part = 0; part < 5; part++) {
            for (int i = 0; i < 10; i++) {
                x.step(part, Due.CHANGE, part, 1);
            }
        }
        for (int act = 1; act <= 9; act++) {
            Due.is("an act of all five", x.run(10), 50);
            for (int part = 0; part < 5; part++) {
                x.restart(part);
            }
            if (act == 8) {
                Due.is("log(399)", x.log(399), 409);
                Due.refused("log(400) after 400 steps", Due.ARGUMENT, () -> x.log(400));
                x.turn(0);
                Due.refused("log(400) after 401 steps", Due.ARGUMENT, () -> x.log(400));
                x.run(10);
                for (int part = 0; part < 5; part++) {
                    x.restart(part);
                }
            }
        }
        Due.is("all steps count", x.count(2), 500);
        Due.is("log(0)", x.log(0), 0);
        Due.is("log(396)", x.log(396), 109);
        Due.is("log(399)", x.log(399), 409);
        Due.refused("log(400)", Due.ARGUMENT, () -> x.log(400));
        Due.refused("log(499)", Due.ARGUMENT, () -> x.log(499));
    }
}
