/** Promise 5: losing. */
public final class Promise05LosingTest {
    public static void main(String[] args) {
        HouseThreads2 x = Due.withParts(1, 2);
        for (int i = 1; i <= 5; i++) {
            x.step(0, Due.SEND, 1, i);
        }
        x.step(1, Due.HEAR, 0, 0);
        x.turn(0);
        x.losing(true);
        x.turn(0);
        x.losing(true);
        x.turn(0);
        x.losing(false);
        x.turn(0);
        x.losing(false);
        x.turn(0);
        int[] states = {Due.ON_ITS_WAY, Due.LOST, Due.LOST, Due.ON_ITS_WAY, Due.ON_ITS_WAY};
        for (int i = 0; i < states.length; i++) {
            Due.is("state of message " + (i + 1), x.message(i + 1, 0), states[i]);
            Due.is("value of message " + (i + 1), x.message(i + 1, 3), i + 1);
        }
        Due.is("messages, lost ones too", x.count(1), 5);
        Due.is("messages on their way", x.count(5), 3);
        Due.is("the sender is done", x.told(0, 0), Due.DONE);

        x.losing(true);
        Due.is("what is on its way is heard for all that", x.turn(1), Due.DONE);
        Due.place("heard", x, 0, 1, -1);
        x.restart(1);
        x.turn(1);
        Due.place("the lost ones are passed over", x, 0, 5, -1);
        lostMessagesAreNotHeard();
        Due.end();
    }

    private static void lostMessagesAreNotHeard() {
        HouseThreads2 x = Due.withParts(1, 2);
        x.step(0, Due.SEND, 1, 7);
        x.step(1, Due.HEAR, 0, 0);
        x.losing(true);
        x.turn(0);
        Due.is("nothing to hear", x.turn(1), Due.LISTENING);
        x.losing(false);
        Due.is("lost stays lost", x.turn(1), Due.LISTENING);
        Due.is("lost stays lost", x.message(1, 0), Due.LOST);
    }
}
