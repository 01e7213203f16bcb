/** "An object is used for at most 512 calls after it has been made": up to the 512th, all answers are as due. */
public final class CallsTest {
    private static final Check CHECK = new Check();
    private static final int BEFORE_THE_LAST = Beam.MOST_CALLS - 1;

    public static void main(String[] args) {
        theLongestRun();
        countsBehindTheLongestRun();
        theLastCallOfEachKind();
        theLastCallIsRefused();
        refusedCallsOnly();
        oneQuestionOnly();
        syncsOnly();
        writesOnly();
        setsOnly();
        CHECK.end();
    }

    private static Beam longest() {
        Beam x = Beam.written(0, 5);
        while (x.calls() < BEFORE_THE_LAST) {
            x.clocks(2000);
        }
        return x;
    }

    private static void theLongestRun() {
        int before = 2000 * (BEFORE_THE_LAST - 1);
        CHECK.due("clocks(2000) at last", longest().clocks(2000), (before + 2000) % 228);
        CHECK.due("sync() at last", longest().sync(), 228 - before % 228);
        CHECK.due("pixel(0) at last", longest().pixel(0), 5);
        CHECK.due("set(0, 0) at last", longest().set(0, 0), timerBehind(before));
    }

    private static int timerBehind(int clocks) {
        return Math.floorMod(-1 - (clocks - 3072) / 3, 256);
    }

    private static void countsBehindTheLongestRun() {
        int clocks = 2000 * (BEFORE_THE_LAST - 1);
        int[] due = {clocks % 228, clocks / 228, timerBehind(clocks), 1, 0,
            clocks / 228 * 160 + Math.max(0, clocks % 228 - 68)};
        for (int what = 0; what < due.length; what++) {
            CHECK.due("count(" + what + ") at last", longest().count(what), due[what]);
        }
    }

    /** An object in use with all calls but one behind it. */
    private static Beam nearlyUsedUp() {
        Beam x = Check.inUse();
        while (x.calls() < BEFORE_THE_LAST) {
            x.count(0);
        }
        return x;
    }

    private static void theLastCallOfEachKind() {
        Beam x = Check.inUse();
        CHECK.due("clocks(300) at last", nearlyUsedUp().clocks(300), x.again().clocks(300));
        CHECK.due("sync() at last", nearlyUsedUp().sync(), x.again().sync());
        CHECK.due("pixel(40) at last", nearlyUsedUp().pixel(40), x.again().pixel(40));
        CHECK.due("set(0, 0) at last", nearlyUsedUp().set(0, 0), x.again().set(0, 0));
        for (int object = 0; object < 6; object++) {
            int other = (object + 1) % 6;
            CHECK.due("met at last", nearlyUsedUp().met(object, other), x.again().met(object, other));
            CHECK.due("there at last", nearlyUsedUp().there(object, 90), x.again().there(object, 90));
            CHECK.due("count at last", nearlyUsedUp().count(object), x.again().count(object));
            if (object < 5) {
                CHECK.due("place at last", nearlyUsedUp().place(object), x.again().place(object));
            }
        }
        nearlyUsedUp().write(35, 0);
    }

    private static void theLastCallIsRefused() {
        last("write(36, 0)", y -> {
            y.write(36, 0);
            return 0;
        }, Check.NO_SUCH);
        last("write(0, 256)", y -> {
            y.write(0, 256);
            return 0;
        }, Check.ILLEGAL);
        last("clocks(2001)", y -> y.clocks(2001), Check.ILLEGAL);
        last("pixel(160)", y -> y.pixel(160), Check.NO_SUCH);
        last("met(1, 1)", y -> y.met(1, 1) ? 1 : 0, Check.NO_SUCH);
        last("place(5)", y -> y.place(5), Check.NO_SUCH);
        last("there(6, 0)", y -> y.there(6, 0) ? 1 : 0, Check.NO_SUCH);
        last("set(4, 0)", y -> y.set(4, 0), Check.NO_SUCH);
        last("set(0, 256)", y -> y.set(0, 256), Check.ILLEGAL);
        last("count(6)", y -> y.count(6), Check.NO_SUCH);
    }

    private static void last(String what, Check.Question call, long due) {
        CHECK.due(what + " at last", Check.outcome(nearlyUsedUp(), call), due);
    }

    /** "Such a call changes nothing", however many there are. */
    private static void refusedCallsOnly() {
        for (int what = 0; what < 6; what++) {
            Beam x = new Beam();
            while (x.calls() < BEFORE_THE_LAST) {
                int v = 256 + x.calls();
                CHECK.due("set(0, " + v + ")", Check.outcome(x, y -> y.set(0, v)), Check.ILLEGAL);
            }
            CHECK.due("count(" + what + ") behind 511 refused calls", x.count(what), 0);
        }
    }

    private static void oneQuestionOnly() {
        oneQuestion("pixel(40)", y -> y.pixel(40), 30);
        oneQuestion("met(0, 5)", y -> y.met(0, 5) ? 1 : 0, 1);
        oneQuestion("place(4)", y -> y.place(4), 157);
        oneQuestion("there(1, 71)", y -> y.there(1, 71) ? 1 : 0, 1);
        oneQuestion("count(0)", y -> y.count(0), 160);
    }

    private static void oneQuestion(String what, Check.Question call, long due) {
        Beam x = Check.inUse();
        while (x.calls() < Beam.MOST_CALLS) {
            CHECK.due(what + ", call " + x.calls(), call.of(x), due);
        }
    }

    private static void syncsOnly() {
        Beam x = new Beam();
        while (x.calls() < Beam.MOST_CALLS) {
            CHECK.due("sync(), call " + x.calls(), x.sync(), 228);
        }
    }

    private static void writesOnly() {
        Beam x = Beam.written(23, 0x80);
        while (x.calls() < BEFORE_THE_LAST) {
            x.write(33, 0);
        }
        CHECK.due("place(0) moved 510 times by -8", x.place(0), 8 * 510 % 160);
    }

    private static void setsOnly() {
        Beam x = new Beam();
        while (x.calls() < Beam.MOST_CALLS) {
            int calls = x.calls();
            CHECK.due("set, call " + calls, x.set(calls & 3, calls * 7 & 255), calls == 0 ? 0 : (calls - 1) * 7 & 255);
        }
    }
}
