/** Promise 10: count. */
public final class CountTest {
    private static final Check CHECK = new Check();

    public static void main(String[] args) {
        noneOfThese();
        ordinary();
        theMostMeetings();
        pixelsDrawnInAll();
        CHECK.end();
    }

    /** "NoSuchElementException: none of these." */
    private static void noneOfThese() {
        CHECK.refused("count(-1)", x -> x.count(-1), Check.NO_SUCH);
        CHECK.refused("count(6)", x -> x.count(6), Check.NO_SUCH);
        for (int what : Check.FAR_OUT) {
            CHECK.refused("count(" + what + ")", x -> x.count(what), Check.NO_SUCH);
        }
        for (int i = 0; i < 6; i++) {
            int what = i;
            CHECK.taken("count(" + what + ")", x -> x.count(what));
        }
    }

    private static void counts(String when, Beam x, int... due) {
        for (int what = 0; what < due.length; what++) {
            CHECK.due("count(" + what + ") " + when, x.count(what), due[what]);
        }
    }

    private static void ordinary() {
        Beam x = Beam.written(9, 255, 10, 255);
        counts("at first", x, 0, 0, 0, 0, 0, 0);
        x.set(0, 20);
        x.clocks(68);
        counts("as pixel 0 comes next", x, 68, 0, 254, 1, 0, 0);
        x.clocks(1);
        counts("behind pixel 0", x, 69, 0, 253, 1, 1, 1);
        x.write(13, 2);
        x.clocks(158);
        counts("as pixel 159 comes next", x, 227, 0, (20 - 227 / 3) & 255, 1, 1, 159);
        x.set(3, 6);
        x.clocks(1);
        counts("as the next line begins", x, 0, 1, 6, 0, 1, 160);
        x.sync();
        counts("a line later", x, 0, 2, 6, 0, 3, 320);
        x.clocks(2000);
        counts("2000 clocks later", x, 176, 10, 6, 0, 3, 320 + 8 * 160 + 108);
    }

    private static void theMostMeetings() {
        Beam x = Beam.written(9, 255, 10, 255, 13, 2, 19, 2, 20, 2, 5, 255);
        x.sync();
        CHECK.due("all meetings that there can be", x.count(4), 15);
        x.sync();
        CHECK.due("they meet again", x.count(4), 15);
    }

    /** Blank ones too, and each time that they are drawn. */
    private static void pixelsDrawnInAll() {
        for (int clock = 0; clock < 228; clock++) {
            Beam x = Beam.written(4, clock & 1);
            x.sync();
            x.clocks(clock);
            CHECK.due("pixels drawn at clock " + clock, x.count(5), 160 + Math.max(0, clock - 68));
        }
    }
}
