/** The sentences of "Terms" up to the turns that name an edge: a method for each, which begins with its words. */
public final class EdgesOfTermsTest {
    public static void main(String[] args) {
        placesAre0To7();
        partsAreAtMostSix();
        ranksAre0To9();
        stepsAreAtMostTen();
        kindsAre0To2();
        hearHasB0();
        statesAre0To5();
        atIs0AtFirst();
        messagesCountFrom1();
        messagesAreAtMostSixty();
        lostAsItIsSent();
        Due.end();
    }

    private static void placesAre0To7() {
        Due.sentence("PLACES are 0 .. 7, each with a VALUE (0 at first) and the part that HOLDS it, or none.");
        HouseThreads2 x = Due.withParts(1);
        for (int place = 0; place <= 7; place++) {
            Due.place("at first", x, place, 0, -1);
            x.step(0, Due.CHANGE, place, place - 4);
        }
        x.step(0, Due.HEAR, 7, 0);
        for (int place : new int[] {-1, 8, Integer.MIN_VALUE, Integer.MAX_VALUE}) {
            Due.refusedWhole("change of place " + place, x, Due.ARGUMENT, () -> x.step(0, Due.CHANGE, place, 1));
            Due.refusedWhole("hear into place " + place, x, Due.ARGUMENT, () -> x.step(0, Due.HEAR, place, 0));
            Due.refusedWhole("place(" + place + ", 0)", x, Due.ARGUMENT, () -> x.place(place, 0));
            Due.refusedWhole("place(" + place + ", 1)", x, Due.ARGUMENT, () -> x.place(place, 1));
        }
        Due.is("a step for each place", x.run(9), 8);
        for (int place = 0; place <= 7; place++) {
            Due.place("all held", x, place, place - 4, 0);
        }
        Due.part("it holds all places", x, 0, Due.LISTENING, 8, -1, 8);
        x.interrupt(0);
        for (int place = 0; place <= 7; place++) {
            Due.place("none held", x, place, 0, -1);
        }
    }

    private static void partsAreAtMostSix() {
        Due.sentence("PARTS 0, 1, .. (at most 6, as they come)");
        HouseThreads2 x = new HouseThreads2();
        for (int n = 0; n < 6; n++) {
            int next = n;
            Due.refused("told(" + n + ", 0) before part " + n, Due.NO_SUCH, () -> x.told(next, 0));
            Due.is("part " + n, x.part(9 - n), n);
            Due.is("parts then", x.count(0), n + 1);
        }
        Due.refusedWhole("a seventh part", x, Due.NO_ROOM, () -> x.part(0));
        Due.refused("told(6, 0)", Due.NO_SUCH, () -> x.told(6, 0));
        Due.refused("told(-1, 0)", Due.NO_SUCH, () -> x.told(-1, 0));
        x.close();
        Due.refusedWhole("a seventh part when all are ENDED", x, Due.NO_ROOM, () -> x.part(0));
    }

    private static void ranksAre0To9() {
        Due.sentence("have a RANK 0 .. 9");
        for (int rank = 0; rank <= 9; rank++) {
            Due.is("rank " + rank, Due.withParts(rank).told(0, 1), rank);
        }
        HouseThreads2 x = new HouseThreads2();
        for (int rank : new int[] {-1, 10, Integer.MIN_VALUE, Integer.MAX_VALUE}) {
            Due.refusedWhole("part(" + rank + ")", x, Due.ARGUMENT, () -> x.part(rank));
        }
        Due.is("refused ones take no number", x.part(0), 0);
    }

    private static void stepsAreAtMostTen() {
        Due.sentence("an ACT: a row of STEPS (at most 10)");
        HouseThreads2 x = Due.withParts(1, 2);
        for (int i = 0; i < 10; i++) {
            Due.is("steps so far", x.told(0, 2), i);
            Due.is("steps then", x.step(0, Due.CHANGE, 0, i), i + 1);
        }
        Due.refusedWhole("an eleventh change", x, Due.NO_ROOM, () -> x.step(0, Due.CHANGE, 0, 50));
        Due.refusedWhole("an eleventh send", x, Due.NO_ROOM, () -> x.step(0, Due.SEND, 1, 50));
        Due.refusedWhole("an eleventh hear", x, Due.NO_ROOM, () -> x.step(0, Due.HEAR, 0, 0));
        Due.is("another part has room of its own", x.step(1, Due.CHANGE, 1, 1), 1);
        for (int i = 0; i < 9; i++) {
            Due.is("step " + i, x.turn(0), Due.READY);
        }
        Due.is("the tenth is the last", x.turn(0), Due.DONE);
        Due.place("all ten are done", x, 0, 45, -1);
        x.restart(0);
        Due.refusedWhole("an eleventh step after a restart", x, Due.NO_ROOM, () -> x.step(0, Due.CHANGE, 0, 50));
    }

    private static void kindsAre0To2() {
        Due.sentence("0 CHANGE place a by b; 1 SEND b to part a; 2 HEAR into place a");
        HouseThreads2 x = Due.withParts(1, 2);
        x.step(0, 0, 5, -99);
        x.step(0, 1, 1, 99);
        x.step(1, 2, 6, 0);
        for (int kind : new int[] {-1, 3, Integer.MIN_VALUE, Integer.MAX_VALUE}) {
            Due.refusedWhole("kind " + kind, x, Due.ARGUMENT, () -> x.step(0, kind, 0, 0));
        }
        x.turn(0);
        Due.place("changed by b", x, 5, -99, 0);
        x.turn(0);
        Due.is("sent to a", x.message(1, 2), 1);
        Due.is("b is sent", x.message(1, 3), 99);
        x.turn(1);
        Due.place("heard into a", x, 6, 99, -1);
    }

    private static void hearHasB0() {
        Due.sentence("2 HEAR into place a (b is 0).");
        HouseThreads2 x = Due.withParts(1);
        for (int b : new int[] {-1, 1, -99, 99, Integer.MIN_VALUE, Integer.MAX_VALUE}) {
            Due.refusedWhole("hear with b " + b, x, Due.ARGUMENT, () -> x.step(0, Due.HEAR, 0, b));
        }
        Due.is("hear with b 0", x.step(0, Due.HEAR, 0, 0), 1);
    }

    private static void statesAre0To5() {
        Due.sentence("A part is 0 READY, 1 WAITING (for a place), 2 LISTENING (for a message), 3 DONE, 4 FAILED, 5"
                + " ENDED");
        HouseThreads2 x = Due.withParts(1, 2, 3, 4);
        x.step(0, Due.HEAR, 0, 0);
        x.step(1, Due.CHANGE, 0, 1);
        x.step(3, Due.CHANGE, 1, 1);
        x.fails(3, 0, true);
        Due.is("before a turn", x.told(0, 0), 0);
        Due.is("nothing to hear", x.turn(0), 2);
        Due.is("a held place", x.turn(1), 1);
        Due.is("no steps", x.turn(2), 3);
        Due.is("a failing step", x.turn(3), 4);
        int[] states = {2, 1, 3, 4};
        for (int part = 0; part < 4; part++) {
            Due.is("told(" + part + ", 0)", x.told(part, 0), states[part]);
        }
        x.close();
        Due.is("closed", x.told(0, 0), 5);
    }

    private static void atIs0AtFirst() {
        Due.sentence("AT is its next step, 0 at first.");
        HouseThreads2 x = Due.withParts(1);
        Due.is("AT without steps", x.told(0, 3), 0);
        for (int i = 0; i < 10; i++) {
            x.step(0, Due.CHANGE, 0, 1);
        }
        for (int i = 0; i < 10; i++) {
            Due.is("AT before step " + i, x.told(0, 3), i);
            x.turn(0);
            Due.is("the step that was done", x.log(i), i);
        }
        Due.is("AT behind the last step", x.told(0, 3), 10);
    }

    private static void messagesCountFrom1() {
        Due.sentence("MESSAGES 1, 2, ..");
        HouseThreads2 x = Due.withParts(1);
        x.step(0, Due.SEND, 0, 7);
        x.step(0, Due.SEND, 0, 8);
        for (int sent = 0; sent <= 2; sent++) {
            int next = sent + 1;
            Due.refused("message 0 of " + sent, Due.NO_SUCH, () -> x.message(0, 0));
            Due.refused("message " + next + " of " + sent, Due.NO_SUCH, () -> x.message(next, 0));
            Due.refused("again(0) of " + sent, Due.NO_SUCH, () -> x.again(0));
            Due.refused("again(" + next + ") of " + sent, Due.NO_SUCH, () -> x.again(next));
            x.run(1);
        }
        Due.is("the first", x.message(1, 3), 7);
        Due.is("the second", x.message(2, 3), 8);
    }

    private static void messagesAreAtMostSixty() {
        Due.sentence("(at most 60, as they are sent): from a part, to a part, a value");
        HouseThreads2 x = Edges.withSixtyMessages();
        Due.is("messages", x.count(1), 60);
        for (int m = 1; m <= 60; m++) {
            int from = (m - 1) % 6;
            Due.is("message " + m + " from", x.message(m, 1), from);
            Due.is("message " + m + " to", x.message(m, 2), 5 - from);
            Due.is("message " + m + " value", x.message(m, 3), 10 * from + (m - 1) / 6);
        }
        Due.refused("message 61", Due.NO_SUCH, () -> x.message(61, 0));
        x.restart(0);
        x.turn(0);
        Due.is("messages when one more was tried", x.count(1), 60);
        Due.refused("message 61", Due.NO_SUCH, () -> x.message(61, 0));
        Due.is("the last one is as it was", x.message(60, 3), 59);
    }

    private static void lostAsItIsSent() {
        Due.sentence("A message is lost, as it is sent, if losing is on.");
        HouseThreads2 x = Due.withParts(1);
        x.step(0, Due.SEND, 0, 1);
        x.step(0, Due.SEND, 0, 2);
        x.step(0, Due.HEAR, 0, 0);
        x.turn(0);
        x.losing(true);
        Due.is("sent before losing is on", x.message(1, 0), Due.ON_ITS_WAY);
        x.turn(0);
        Due.is("sent while it is on", x.message(2, 0), Due.LOST);
        Due.is("a lost one is a step done", x.told(0, 3), 2);
        Due.is("one that is on its way is heard while it is on", x.turn(0), Due.DONE);
        x.losing(false);
        Due.is("lost stays lost when it is off", x.message(2, 0), Due.LOST);
    }
}
