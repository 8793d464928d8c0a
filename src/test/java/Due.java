import java.util.Objects;

/** What the tests share: it prints each answer that is not the one due, and keeps their count. */
final class Due {
    /** One call of the face, so that its answer or its exception can be looked at as one thing. */
    interface Call {
        Object answer();
    }

    private int wrong = 0;
    private int looked = 0;

    /** An exception is due as its class, every other answer as itself. */
    void is(String what, Object due, Call call) {
        Object got;
        try {
            got = call.answer();
        } catch (RuntimeException e) {
            got = e.getClass();
        }
        looked++;
        if (!Objects.equals(got, due)) {
            wrong++;
            System.out.println(what + " answered " + got + ", due is " + due);
        }
    }

    int wrong() {
        return wrong;
    }

    void end() {
        System.out.println(looked + " answers looked at, " + wrong + " not as due");
        if (wrong != 0) {
            System.exit(1);
        }
    }

    /** The word of a key with these bytes, the bits behind them 0. */
    static long word(int... bytes) {
        long word = 0;
        for (int i = 0; i < bytes.length; i++) {
            word |= (bytes[i] & 255L) << (56 - 8 * i);
        }
        return word;
    }
}
