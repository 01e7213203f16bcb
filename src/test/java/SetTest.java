/** Promise 9: set, with the timer. */
public final class SetTest {
    private static final Check CHECK = new Check();
    private static final int[] CYCLES = {1, 8, 64, 1024};

    public static void main(String[] args) {
        noSuchInterval();
        noSuchValue();
        bothWrong();
        everyValue();
        intervals();
        theFirstCycleBeginsWithTheNextClock();
        oneLessThan0();
        itsIntervalIs1FromThenOn();
        allTheWayDown();
        setItIsNotRung();
        answersWhatItWas();
        CHECK.end();
    }

    /** "interval is not 0 .. 3" */
    private static void noSuchInterval() {
        for (int v : new int[] {0, 255}) {
            CHECK.refused("set(-1, " + v + ")", x -> x.set(-1, v), Check.NO_SUCH);
            CHECK.refused("set(4, " + v + ")", x -> x.set(4, v), Check.NO_SUCH);
            for (int interval : Check.FAR_OUT) {
                CHECK.refused("set(" + interval + ", " + v + ")", x -> x.set(interval, v), Check.NO_SUCH);
            }
        }
    }

    /** "v is not 0 .. 255" */
    private static void noSuchValue() {
        for (int i = 0; i < 4; i++) {
            int interval = i;
            CHECK.refused("set(" + interval + ", -1)", x -> x.set(interval, -1), Check.ILLEGAL);
            CHECK.refused("set(" + interval + ", 256)", x -> x.set(interval, 256), Check.ILLEGAL);
            for (int v : Check.FAR_OUT) {
                CHECK.refused("set(" + interval + ", " + v + ")", x -> x.set(interval, v), Check.ILLEGAL);
            }
        }
    }

    /** The document names the interval first. */
    private static void bothWrong() {
        for (int interval : new int[] {-1, 4}) {
            for (int v : new int[] {-1, 256}) {
                CHECK.refused("set(" + interval + ", " + v + ")", x -> x.set(interval, v), Check.NO_SUCH);
            }
        }
    }

    private static void everyValue() {
        for (int interval = 0; interval < 4; interval++) {
            for (int v = 0; v < 256; v++) {
                Beam x = new Beam();
                CHECK.due("set(" + interval + ", " + v + ")", x.set(interval, v), 0);
                CHECK.due("the value", x.count(2), v);
                CHECK.due("rung", x.count(3), 0);
            }
        }
    }

    private static void go(Beam x, int clocks) {
        for (int left = clocks; left > 0; left -= 2000) {
            x.clocks(Math.min(left, 2000));
        }
    }

    /** "set, it does nothing for one interval, then one less, and so on" */
    private static void intervals() {
        for (int interval = 0; interval < 4; interval++) {
            Beam x = new Beam();
            x.set(interval, 5);
            for (int less = 1; less <= 5; less++) {
                go(x, 3 * CYCLES[interval] - 1);
                CHECK.due("a clock before, interval " + interval, x.count(2), 6 - less);
                x.clocks(1);
                CHECK.due("a whole interval, interval " + interval, x.count(2), 5 - less);
                CHECK.due("not rung", x.count(3), 0);
            }
        }
    }

    /** "of three clocks each, the first one with the next clock" */
    private static void theFirstCycleBeginsWithTheNextClock() {
        for (int before = 0; before < 8; before++) {
            for (int interval = 0; interval < 4; interval++) {
                Beam x = new Beam();
                x.set(0, 100);
                x.clocks(before);
                x.set(interval, 50);
                go(x, 3 * CYCLES[interval] - 1);
                CHECK.due("a clock before", x.count(2), 50);
                x.clocks(1);
                CHECK.due("a whole interval on", x.count(2), 49);
            }
        }
    }

    /** "when it is one less than 0 it is 255, RUNG" */
    private static void oneLessThan0() {
        for (int interval = 0; interval < 4; interval++) {
            Beam x = new Beam();
            x.set(interval, 0);
            go(x, 3 * CYCLES[interval] - 1);
            CHECK.due("0 before it rings", x.count(2), 0);
            CHECK.due("not rung yet", x.count(3), 0);
            x.clocks(1);
            CHECK.due("255 as it rings", x.count(2), 255);
            CHECK.due("rung", x.count(3), 1);
        }
    }

    /** "and its interval is 1 from then on" */
    private static void itsIntervalIs1FromThenOn() {
        for (int interval = 0; interval < 4; interval++) {
            Beam x = new Beam();
            x.set(interval, 0);
            go(x, 3 * CYCLES[interval]);
            for (int due = 254; due >= 200; due--) {
                x.clocks(2);
                CHECK.due("two clocks on", x.count(2), due + 1);
                x.clocks(1);
                CHECK.due("a cycle on", x.count(2), due);
            }
            x.clocks(3 * 200);
            CHECK.due("0 again", x.count(2), 0);
            CHECK.due("still rung", x.count(3), 1);
            x.clocks(3);
            CHECK.due("255 again", x.count(2), 255);
            CHECK.due("rung once more", x.count(3), 1);
            x.clocks(3);
            CHECK.due("the interval is still 1", x.count(2), 254);
        }
    }

    /** From the highest value, by the longest interval that 512 calls can run down. */
    private static void allTheWayDown() {
        for (int interval = 0; interval < 4; interval++) {
            Beam x = new Beam();
            x.set(interval, 255);
            go(x, 3 * CYCLES[interval] * 256 - 1);
            CHECK.due("0 a clock before it rings", x.count(2), 0);
            CHECK.due("not rung yet", x.count(3), 0);
            x.clocks(1);
            CHECK.due("255 as it rings", x.count(2), 255);
            CHECK.due("rung", x.count(3), 1);
        }
    }

    /** "The timer is set, not rung" */
    private static void setItIsNotRung() {
        for (int interval = 0; interval < 4; interval++) {
            Beam x = new Beam();
            x.set(0, 0);
            x.clocks(4);
            CHECK.due("rung", x.count(3), 1);
            CHECK.due("set(" + interval + ", 9)", x.set(interval, 9), 255);
            CHECK.due("set, it is not rung", x.count(3), 0);
            go(x, 3 * CYCLES[interval] - 1);
            CHECK.due("set, its interval is the new one", x.count(2), 9);
            x.clocks(1);
            CHECK.due("a whole interval on", x.count(2), 8);
            CHECK.due("still not rung", x.count(3), 0);
        }
    }

    /** "what its value was" */
    private static void answersWhatItWas() {
        Beam x = new Beam();
        CHECK.due("at first", x.set(3, 255), 0);
        CHECK.due("as it was set", x.set(0, 0), 255);
        x.clocks(6);
        CHECK.due("as it has run", x.set(0, 7), 254);
        CHECK.due("the value", x.count(2), 7);
    }
}
