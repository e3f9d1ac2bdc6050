/** Counts and prints the answers that are not the due ones. */
final class Check {
    static final long FAR_OFF = -100000000000L;

    private int asked;
    private int wrong;

    interface Call {
        long ask();
    }

    void due(String what, long got, long want) {
        asked++;
        if (got != want) {
            wrong++;
            System.out.println(what + " answered " + got + ", due is " + want);
        }
    }

    void thrown(String what, String want, Call call) {
        asked++;
        String got = "nothing";
        try {
            call.ask();
        } catch (RuntimeException e) {
            got = e.getClass().getSimpleName();
        }
        if (!got.equals(want)) {
            wrong++;
            System.out.println(what + " threw " + got + ", due is " + want);
        }
    }

    void noIndex(String what, Call call) {
        thrown(what, "IndexOutOfBoundsException", call);
    }

    void noElement(String what, Call call) {
        thrown(what, "NoSuchElementException", call);
    }

    /** Asks for x, y, w (or a, b, c) one by one. */
    void three(String what, Triple call, long x, long y, long w) {
        due(what + " 0", call.ask(0), x);
        due(what + " 1", call.ask(1), y);
        due(what + " 2", call.ask(2), w);
    }

    interface Triple {
        long ask(int what);
    }

    void end() {
        System.out.println(asked + " answers, " + wrong + " not as due");
        if (wrong != 0 || asked == 0) {
            System.exit(1);
        }
    }
}
