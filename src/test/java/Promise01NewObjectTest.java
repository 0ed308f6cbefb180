/** Promise 1: a new object has no parts and loses nothing. */
public final class Promise01NewObjectTest {
    public static void main(String[] args) {
        HouseThreads2 x = new HouseThreads2();
        for (int what = 0; what <= 5; what++) {
            Due.is("count(" + what + ") of a new object", x.count(what), 0);
        }
        for (int place = 0; place <= 7; place++) {
            Due.place("new", x, place, 0, -1);
        }
        Due.refused("told(0, 0)", Due.NO_SUCH, () -> x.told(0, 0));
        Due.refused("message(1, 0)", Due.NO_SUCH, () -> x.message(1, 0));
        Due.refused("log(0)", Due.ARGUMENT, () -> x.log(0));
        Due.is("run(50) without parts", x.run(50), 0);
        Due.is("close() without parts", x.close(), 0);
        nothingIsLostAtFirst();
        objectsAreApart();
        Due.end();
    }

    private static void nothingIsLostAtFirst() {
        HouseThreads2 x = Due.withParts(1);
        x.step(0, Due.SEND, 0, 5);
        x.turn(0);
        Due.is("state of the first message", x.message(1, 0), Due.ON_ITS_WAY);
    }

    private static void objectsAreApart() {
        HouseThreads2 one = Due.withParts(1, 2);
        one.step(0, Due.CHANGE, 3, 9);
        one.losing(true);
        one.run(2);
        HouseThreads2 other = new HouseThreads2();
        Due.is("count(0) of another object", other.count(0), 0);
        Due.is("count(2) of another object", other.count(2), 0);
        Due.place("another object", other, 3, 0, -1);
        other.part(1);
        other.step(0, Due.SEND, 0, 5);
        other.turn(0);
        Due.is("a message of another object", other.message(1, 0), Due.ON_ITS_WAY);
    }
}
