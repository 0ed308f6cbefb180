/** Promise 13: place. */
public final class Promise13PlaceTest {
    public static void main(String[] args) {
        HouseThreads2 x = Due.withParts(1, 2);
        x.step(1, Due.CHANGE, 0, -7);
        x.step(1, Due.CHANGE, 7, 8);
        x.step(1, Due.HEAR, 3, 0);
        x.step(0, Due.CHANGE, 4, 1);
        x.run(3);
        Due.place("held", x, 0, -7, 1);
        Due.place("held", x, 7, 8, 1);
        Due.place("listened into", x, 3, 0, 1);
        Due.place("of one that is done", x, 4, 1, -1);
        Due.place("untouched", x, 6, 0, -1);
        for (int place : new int[] {-1, 8, Integer.MIN_VALUE, Integer.MAX_VALUE}) {
            Due.refused("place(" + place + ", 0)", Due.ARGUMENT, () -> x.place(place, 0));
            Due.refused("place(" + place + ", 1)", Due.ARGUMENT, () -> x.place(place, 1));
        }
        for (int what : new int[] {-1, 2, Integer.MIN_VALUE, Integer.MAX_VALUE}) {
            Due.refused("place(0, " + what + ")", Due.ARGUMENT, () -> x.place(0, what));
        }
        Due.end();
    }
}
