/** Promise 9: set, with the timer. */
public final class SetTest {
    private static final Check CHECK = new Check();
    private static final int[] CYCLES = {1, 8, 64, 1024};

    public static void main(String[] args) {
        intervals();
        theFirstCycleBeginsWithTheNextClock();
        ringing();
        rungStaysRung();
        answersWhatItWas();
        wrongCalls();
        CHECK.end();
    }

    private static void go(BeamDrawer x, int clocks) {
        for (int left = clocks; left > 0; left -= 2000) {
            x.clocks(Math.min(left, 2000));
        }
    }

    private static void intervals() {
        for (int interval = 0; interval < 4; interval++) {
            BeamDrawer x = new BeamDrawer();
            x.set(interval, 5);
            for (int less = 1; less < 4; less++) {
                go(x, 3 * CYCLES[interval] - 1);
                CHECK.due("a clock before, interval " + interval, x.count(2), 6 - less);
                x.clocks(1);
                CHECK.due("a whole interval, interval " + interval, x.count(2), 5 - less);
                CHECK.due("not rung", x.count(3), 0);
            }
        }
    }

    private static void theFirstCycleBeginsWithTheNextClock() {
        for (int before = 0; before < 6; before++) {
            BeamDrawer x = new BeamDrawer();
            x.set(0, 100);
            x.clocks(before);
            x.set(0, 50);
            x.clocks(2);
            CHECK.due("two clocks on", x.count(2), 50);
            x.clocks(1);
            CHECK.due("three clocks on", x.count(2), 49);
        }
    }

    private static void ringing() {
        for (int interval = 0; interval < 4; interval++) {
            BeamDrawer x = new BeamDrawer();
            x.set(interval, 0);
            go(x, 3 * CYCLES[interval] - 1);
            CHECK.due("0 before it rings", x.count(2), 0);
            CHECK.due("not rung yet", x.count(3), 0);
            x.clocks(1);
            CHECK.due("255 as it rings", x.count(2), 255);
            CHECK.due("rung", x.count(3), 1);
            x.clocks(2);
            CHECK.due("still 255", x.count(2), 255);
            x.clocks(1);
            CHECK.due("its interval is 1 from then on", x.count(2), 254);
        }
    }

    private static void rungStaysRung() {
        BeamDrawer x = new BeamDrawer();
        x.set(2, 0);
        x.clocks(3 * 64 + 3 * 255);
        CHECK.due("0 again", x.count(2), 0);
        CHECK.due("still rung", x.count(3), 1);
        x.clocks(3);
        CHECK.due("255 again", x.count(2), 255);
        CHECK.due("still rung", x.count(3), 1);
        x.clocks(3);
        CHECK.due("the interval is still 1", x.count(2), 254);
        x.set(1, 9);
        CHECK.due("set, it is not rung", x.count(3), 0);
        x.clocks(23);
        CHECK.due("set, its interval is the new one", x.count(2), 9);
        x.clocks(1);
        CHECK.due("a whole interval on", x.count(2), 8);
    }

    private static void answersWhatItWas() {
        BeamDrawer x = new BeamDrawer();
        CHECK.due("at first", x.set(3, 255), 0);
        CHECK.due("as it was set", x.set(0, 0), 255);
        x.clocks(6);
        CHECK.due("as it has run", x.set(0, 7), 254);
        CHECK.due("the value", x.count(2), 7);
    }

    private static void wrongCalls() {
        BeamDrawer x = new BeamDrawer();
        x.set(0, 3);
        x.clocks(13);
        for (int no : new int[] {-1, 4, Integer.MIN_VALUE, Integer.MAX_VALUE}) {
            for (int v : new int[] {0, 255, -1, 256}) {
                CHECK.refused(x, "set(" + no + ", " + v + ")", () -> x.set(no, v), Check.NO_SUCH);
            }
        }
        for (int no : new int[] {-1, 256, Integer.MIN_VALUE, Integer.MAX_VALUE}) {
            for (int interval = 0; interval < 4; interval++) {
                int of = interval;
                CHECK.refused(x, "set(" + of + ", " + no + ")", () -> x.set(of, no), Check.ILLEGAL);
            }
        }
        x.clocks(2);
        CHECK.due("the cycle that was under way goes on", x.count(2), 254);
    }
}
