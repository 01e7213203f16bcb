/** Promise 4: sync. */
public final class SyncTest {
    private static final Check CHECK = new Check();

    public static void main(String[] args) {
        aWholeLine();
        upToTheNextLinesBeginning();
        theLastClock();
        asClocksWould();
        CHECK.end();
    }

    /** "a whole line, if clock 0 comes next" */
    private static void aWholeLine() {
        Beam x = Beam.written(0, 5);
        for (int line = 1; line <= 3; line++) {
            CHECK.due("sync() at clock 0", x.sync(), 228);
            CHECK.due("the clock", x.count(0), 0);
            CHECK.due("the line", x.count(1), line);
            CHECK.due("pixels drawn", x.count(5), 160 * line);
        }
        CHECK.due("the first pixel", x.pixel(0), 5);
        CHECK.due("the last pixel", x.pixel(159), 5);
        x.clocks(228);
        CHECK.due("sync() behind a line by clocks", x.sync(), 228);
        CHECK.due("the line", x.count(1), 5);
    }

    /** "Clocks up to the next line's beginning: how many." */
    private static void upToTheNextLinesBeginning() {
        for (int clock = 1; clock < 228; clock++) {
            Beam x = new Beam();
            x.clocks(clock);
            CHECK.due("sync() at clock " + clock, x.sync(), 228 - clock);
            CHECK.due("the clock", x.count(0), 0);
            CHECK.due("the line", x.count(1), 1);
            CHECK.due("pixels drawn", x.count(5), 160);
        }
    }

    private static void theLastClock() {
        Beam x = Beam.written(0, 5);
        x.clocks(227);
        x.write(0, 6);
        CHECK.due("sync() at clock 227", x.sync(), 1);
        CHECK.due("the last pixel", x.pixel(159), 6);
        CHECK.due("the pixel before it", x.pixel(158), 5);
    }

    private static void asClocksWould() {
        Beam x = Check.inUse();
        Beam y = Check.inUse();
        x.sync();
        y.clocks(68);
        CHECK.due("sync() as clocks(68)", Look.ahead(x).equals(Look.ahead(y)), true);
    }
}
