import java.util.NoSuchElementException;

/** Compares answers with the ones that are due, and ends a test with exit code 1 if one is not. */
final class Due {
    interface Call {
        void make();
    }

    static final Class<?> NO_SUCH = NoSuchElementException.class;
    static final Class<?> ARGUMENT = IllegalArgumentException.class;
    static final Class<?> STATE = IllegalStateException.class;
    static final Class<?> NO_ROOM = UnsupportedOperationException.class;

    static final int CHANGE = 0, SEND = 1, HEAR = 2;
    static final int READY = 0, WAITING = 1, LISTENING = 2, DONE = 3, FAILED = 4, ENDED = 5;
    static final int ON_ITS_WAY = 0, HEARD = 1, LOST = 2, WITHDRAWN = 3;
    static final int[] FAR_OUT = {Integer.MIN_VALUE, -1000, 1000, Integer.MAX_VALUE};

    private static int wrong = 0;
    private static String sentence = "";

    private Due() {
    }

    /** The document's words that the next answers are about: they are printed with each wrong answer. */
    static void sentence(String words) {
        sentence = "\"" + words + "\": ";
    }

    static void is(String call, long got, long want) {
        if (got != want) {
            wrong++;
            System.out.println(sentence + call + " answered " + got + ", due is " + want);
        }
    }

    /** The very class is due: a subclass, such as the machine's own, is wrong. */
    static void refused(String call, Class<?> want, Call c) {
        Class<?> got = null;
        try {
            c.make();
        } catch (RuntimeException e) {
            got = e.getClass();
        }
        if (got != want) {
            wrong++;
            System.out.println(sentence + call + (got == null ? " threw nothing" : " threw " + got.getName())
                    + ", due is " + want.getName());
        }
    }

    /** As refused, and nothing that can be seen of the object is changed by the call. */
    static void refusedWhole(String call, HouseThreads2 x, Class<?> want, Call c) {
        String before = whole(x);
        refused(call, want, c);
        is(call + " leaves all as it was, which", whole(x).equals(before) ? 1 : 0, 1);
    }

    /** All that can be asked of an object. */
    static String whole(HouseThreads2 x) {
        StringBuilder s = new StringBuilder();
        for (int what = 0; what <= 5; what++) {
            s.append(x.count(what)).append(' ');
        }
        for (int part = 0; part < x.count(0); part++) {
            for (int what = 0; what <= 6; what++) {
                s.append(x.told(part, what)).append(' ');
            }
        }
        for (int place = 0; place <= 7; place++) {
            s.append(x.place(place, 0)).append(' ').append(x.place(place, 1)).append(' ');
        }
        for (int message = 1; message <= x.count(1); message++) {
            for (int what = 0; what <= 3; what++) {
                s.append(x.message(message, what)).append(' ');
            }
        }
        for (int i = 0; i < Math.min(400, x.count(2)); i++) {
            s.append(x.log(i)).append(' ');
        }
        return s.toString();
    }

    /** States, AT, awaited place and held places of a part in one row. */
    static void part(String when, HouseThreads2 x, int part, int state, int at, int awaited, int held) {
        is(when + ": told(" + part + ", 0)", x.told(part, 0), state);
        is(when + ": told(" + part + ", 3)", x.told(part, 3), at);
        is(when + ": told(" + part + ", 4)", x.told(part, 4), awaited);
        is(when + ": told(" + part + ", 5)", x.told(part, 5), held);
    }

    static void place(String when, HouseThreads2 x, int place, int value, int holder) {
        is(when + ": place(" + place + ", 0)", x.place(place, 0), value);
        is(when + ": place(" + place + ", 1)", x.place(place, 1), holder);
    }

    static void turns(HouseThreads2 x, int... parts) {
        for (int part : parts) {
            x.turn(part);
        }
    }

    static HouseThreads2 withParts(int... ranks) {
        HouseThreads2 x = new HouseThreads2();
        for (int rank : ranks) {
            x.part(rank);
        }
        return x;
    }

    static void end() {
        if (wrong != 0) {
            System.out.println(wrong + " answers are not as due");
            System.exit(1);
        }
    }
}
