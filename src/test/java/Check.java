import java.util.NoSuchElementException;

/** What the tests share: comparing answers. */
final class Check {
    static final long NO_SUCH = -1001;
    static final long ILLEGAL = -1002;
    static final int[] FAR_OUT = {Integer.MIN_VALUE, -1000, 1_000_000, Integer.MAX_VALUE};

    interface Question {
        long of(Face x);
    }

    private int wrong;

    void due(String what, long got, long want) {
        if (got != want) {
            wrong++;
            System.out.println(what + " answered " + got + ", due is " + want);
        }
    }

    void due(String what, boolean got, boolean want) {
        due(what, got ? 1 : 0, want ? 1 : 0);
    }

    void due(String what, String got, String want) {
        if (!got.equals(want)) {
            wrong++;
            System.out.println(what + ": [" + got + "], due is [" + want + "]");
        }
    }

    void isWhere(String what, Face x, int object, String want) {
        due(what + ": object " + object + " is at", Look.where(x, object), want);
    }

    /** A call that must throw, on a new object and on one where much has been done, and change nothing. */
    void refused(String what, Question call, long want) {
        refused(new Beam(), what + " on a new object", call, want);
        refused(inUse(), what + " on one in use", call, want);
    }

    private void refused(Beam x, String what, Question call, long want) {
        String before = Look.ahead(x);
        due(what, outcome(x, call), want);
        if (!before.equals(Look.ahead(x))) {
            wrong++;
            System.out.println(what + " changed the object");
        }
    }

    /** Calls just inside their bounds, which must not throw. */
    void taken(String what, Question call) {
        long outcome = outcome(new Beam(), call);
        due(what + " is refused", outcome == NO_SUCH || outcome == ILLEGAL, false);
    }

    void end() {
        System.out.println(wrong == 0 ? "as due" : wrong + " not as due");
        if (wrong != 0) {
            System.exit(1);
        }
    }

    static long outcome(Face x, Question call) {
        try {
            return call.of(x);
        } catch (NoSuchElementException e) {
            return NO_SUCH;
        } catch (IllegalArgumentException e) {
            return ILLEGAL;
        }
    }

    /** All of it is written, old ones differ from new ones, one missile is locked, and a cycle is under way. */
    static Beam inUse() {
        Beam x = Beam.written(0, 10, 1, 20, 2, 30, 3, 40, 5, 0x50, 6, 0x5A, 7, 0xC3, 9, 0xB1, 10, 0x6E, 13, 2);
        x.put(0, 40).put(2, 42).put(1, 70).put(3, 90).put(4, 157);
        x.writes(9, 0x1D, 10, 0xF3, 13, 0, 8, 0x31, 17, 0x25, 18, 0x13, 15, 8, 19, 2, 20, 2, 21, 2);
        x.writes(23, 0x70, 24, 0x80, 25, 0x30, 26, 0xF0, 27, 0xA0);
        x.sync();
        x.set(1, 2);
        x.clocks(160);
        return x;
    }
}
