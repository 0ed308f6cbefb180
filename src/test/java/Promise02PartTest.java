/** Promise 2: part. */
public final class Promise02PartTest {
    public static void main(String[] args) {
        HouseThreads2 x = new HouseThreads2();
        int[] ranks = {0, 9, 4, 4, 1, 8};
        for (int i = 0; i < ranks.length; i++) {
            refusesBadRanks(x);
            Due.is("part(" + ranks[i] + ")", x.part(ranks[i]), i);
            Due.is("count(0)", x.count(0), i + 1);
            Due.part("new part", x, i, Due.READY, 0, -1, 0);
            Due.is("its rank", x.told(i, 1), ranks[i]);
            Due.is("its steps", x.told(i, 2), 0);
            Due.is("how often undone", x.told(i, 6), 0);
        }
        Due.refused("a seventh part", Due.NO_ROOM, () -> x.part(3));
        refusesBadRanks(x);
        Due.is("count(0) when full", x.count(0), 6);
        for (int i = 0; i < ranks.length; i++) {
            Due.is("rank of " + i + " when full", x.told(i, 1), ranks[i]);
        }
        newPartsComeAfterClosing();
        Due.end();
    }

    private static void refusesBadRanks(HouseThreads2 x) {
        Due.refused("part(-1)", Due.ARGUMENT, () -> x.part(-1));
        Due.refused("part(10)", Due.ARGUMENT, () -> x.part(10));
        for (int far : Due.FAR_OUT) {
            Due.refused("part(" + far + ")", Due.ARGUMENT, () -> x.part(far));
        }
    }

    private static void newPartsComeAfterClosing() {
        HouseThreads2 x = Due.withParts(1);
        x.close();
        Due.is("part(2) after close()", x.part(2), 1);
        Due.part("after close()", x, 1, Due.READY, 0, -1, 0);
    }
}
