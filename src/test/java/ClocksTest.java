/** Promise 3: clocks. */
public final class ClocksTest {
    private static final Check CHECK = new Check();

    public static void main(String[] args) {
        noSuchNumber();
        none();
        theMost();
        clocks0To67ShowNothing();
        clocks68To227ShowThePixels();
        theNextLineBegins();
        fromEveryClock();
        longAndShortRunsAreTheSame();
        CHECK.end();
    }

    /** "IllegalArgumentException: n is not 0 .. 2000." */
    private static void noSuchNumber() {
        CHECK.refused("clocks(-1)", x -> x.clocks(-1), Check.ILLEGAL);
        CHECK.refused("clocks(2001)", x -> x.clocks(2001), Check.ILLEGAL);
        for (int n : Check.FAR_OUT) {
            CHECK.refused("clocks(" + n + ")", x -> x.clocks(n), Check.ILLEGAL);
        }
    }

    /** No clocks at all are not refused, and nothing runs. */
    private static void none() {
        Beam x = Check.inUse();
        String before = Look.ahead(x);
        CHECK.due("clocks(0)", x.clocks(0), 160);
        CHECK.due("nothing has run", Look.ahead(x).equals(before), true);
    }

    private static void theMost() {
        Beam x = Beam.written(0, 5);
        CHECK.due("clocks(2000)", x.clocks(2000), 176);
        CHECK.due("line", x.count(1), 8);
        CHECK.due("pixels drawn", x.count(5), 8 * 160 + 108);
        CHECK.due("clocks(1999)", x.clocks(1999), (2000 + 1999) % 228);
    }

    /** "clocks 0 .. 67 show nothing" */
    private static void clocks0To67ShowNothing() {
        Beam x = Beam.written(0, 5, 9, 255, 10, 255);
        for (int clock = 0; clock < 68; clock++) {
            CHECK.due("clocks(1)", x.clocks(1), clock + 1);
            CHECK.due("pixels drawn", x.count(5), 0);
        }
        CHECK.due("the first pixel", x.pixel(0), 0);
        CHECK.due("the last pixel", x.pixel(159), 0);
        CHECK.due("meetings", x.count(4), 0);
    }

    /** "68 .. 227 the PIXELS x = 0 .. 159" */
    private static void clocks68To227ShowThePixels() {
        for (int pixel = 0; pixel < 160; pixel++) {
            Beam x = Beam.written(0, 5);
            x.clocks(68 + pixel);
            x.write(0, 7);
            x.clocks(1);
            x.write(0, 5);
            x.runTo(0);
            CHECK.due("pixels drawn", x.count(5), 160);
            for (int other = 0; other < 160; other++) {
                CHECK.due("pixel " + other + ", 7 written before clock " + (68 + pixel), x.pixel(other),
                        other == pixel ? 7 : 5);
            }
        }
    }

    /** "Behind clock 227 the next line begins." */
    private static void theNextLineBegins() {
        Beam x = Beam.written(0, 5);
        CHECK.due("clocks(227)", x.clocks(227), 227);
        CHECK.due("line", x.count(1), 0);
        CHECK.due("the last pixel is not drawn yet", x.pixel(159), 0);
        CHECK.due("clocks(1)", x.clocks(1), 0);
        CHECK.due("line", x.count(1), 1);
        CHECK.due("the last pixel", x.pixel(159), 5);
        CHECK.due("clocks(1)", x.clocks(1), 1);
        CHECK.due("line", x.count(1), 1);
    }

    /** "which one of its line comes next" */
    private static void fromEveryClock() {
        for (int clock = 0; clock < 228; clock++) {
            for (int n : new int[] {0, 1, 227, 228, 229, 456, 2000}) {
                Beam x = new Beam();
                CHECK.due("clocks(" + clock + ")", x.clocks(clock), clock);
                CHECK.due("clocks(" + n + ") at clock " + clock, x.clocks(n), (clock + n) % 228);
                CHECK.due("line", x.count(1), (clock + n) / 228);
            }
        }
    }

    private static void longAndShortRunsAreTheSame() {
        for (int n : new int[] {1, 97, 98, 99, 160, 227, 228, 229, 300, 400}) {
            Beam atOnce = start();
            Beam oneByOne = start();
            for (int i = 0; i < 5; i++) {
                atOnce.clocks(n);
            }
            for (int i = 0; i < 5; i++) {
                inShortRuns(oneByOne, n);
            }
            CHECK.due("five runs of " + n + " clocks, at once and bit by bit",
                    Look.ahead(atOnce).equals(Look.ahead(oneByOne)), true);
        }
    }

    private static void inShortRuns(Beam x, int n) {
        for (int left = n; left > 0; left -= 17) {
            x.clocks(Math.min(17, left));
        }
    }

    private static Beam start() {
        Beam x = Beam.written(0, 1, 1, 2, 2, 3, 3, 4, 6, 0x5A, 9, 0x3C, 10, 255, 13, 2, 8, 0x10);
        x.clocks(130);
        x.writes(0, 9, 28, 0, 32, 0, 17, 3);
        x.set(1, 3);
        return x;
    }
}
