import java.util.NoSuchElementException;

/** What the tests share: comparing answers, and a look at all that an object answers. */
final class Check {
    static final long NO_SUCH = -1001;
    static final long ILLEGAL = -1002;

    interface Call {
        long answer();
    }

    private int wrong;

    void due(String what, long got, long want) {
        if (got != want) {
            wrong++;
            System.out.println(what + " answered " + got + ", due is " + want);
        }
    }

    void due(String what, boolean got, boolean want) {
        due(what, got ? 1 : 0, want ? 1 : 0);
    }

    /** A call that must throw, and change nothing that can be seen. */
    void refused(BeamDrawer x, String what, Call call, long want) {
        String before = look(x);
        due(what, outcome(call), want);
        if (!before.equals(look(x))) {
            wrong++;
            System.out.println(what + " changed the object");
        }
    }

    void end() {
        System.out.println(wrong == 0 ? "as due" : wrong + " not as due");
        if (wrong != 0) {
            System.exit(1);
        }
    }

    static long outcome(Call call) {
        try {
            return call.answer();
        } catch (NoSuchElementException e) {
            return NO_SUCH;
        } catch (IllegalArgumentException e) {
            return ILLEGAL;
        }
    }

    static BeamDrawer written(int... registersAndValues) {
        BeamDrawer x = new BeamDrawer();
        write(x, registersAndValues);
        return x;
    }

    static void write(BeamDrawer x, int... registersAndValues) {
        for (int i = 0; i < registersAndValues.length; i += 2) {
            x.write(registersAndValues[i], registersAndValues[i + 1]);
        }
    }

    /** Where an object is, as ranges: "3-4 19". */
    static String where(BeamDrawer x, int object) {
        StringBuilder ranges = new StringBuilder();
        for (int start = 0; start < 160; start++) {
            if (!x.there(object, start)) {
                continue;
            }
            int end = start;
            while (end < 159 && x.there(object, end + 1)) {
                end++;
            }
            ranges.append(ranges.length() == 0 ? "" : " ").append(start);
            ranges.append(end == start ? "" : "-" + end);
            start = end;
        }
        return ranges.toString();
    }

    void isWhere(String what, BeamDrawer x, int object, String want) {
        String got = where(x, object);
        if (!got.equals(want)) {
            wrong++;
            System.out.println(what + ": object " + object + " is at [" + got + "], due is [" + want + "]");
        }
    }

    /** All answers in one text: more than 512 calls, which this program, keeping no count of them, bears. */
    static String look(BeamDrawer x) {
        StringBuilder all = new StringBuilder();
        for (int what = 0; what < 6; what++) {
            all.append(x.count(what)).append(' ');
        }
        for (int object = 0; object < 6; object++) {
            all.append(object < 5 ? x.place(object) : 0).append(':').append(where(x, object)).append('/');
            for (int other = 0; other < 6; other++) {
                all.append(other != object && x.met(object, other) ? '1' : '0');
            }
        }
        for (int pixel = 0; pixel < 160; pixel++) {
            all.append(' ').append(x.pixel(pixel));
        }
        return all.toString();
    }
}
