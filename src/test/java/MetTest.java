/** Promise 6: met. */
public final class MetTest {
    private static final Check CHECK = new Check();
    /** What brings objects 0 .. 5 to pixel 0, register and value. */
    private static final int[][] SHOWING = {{9, 128}, {10, 128}, {19, 2}, {20, 2}, {13, 2}, {5, 16}};

    public static void main(String[] args) {
        noSuchObject();
        theSame();
        eachTwoOfThem();
        whenThePixelIsDrawn();
        whetherBlankOrNot();
        noMeetingsBehindRegister35();
        meetingsAreKept();
        atOnePixel();
        atTheFirstAndTheLastPixel();
        lockedMissilesDoNotMeet();
        CHECK.end();
    }

    private static Check.Question met(int a, int b) {
        return x -> x.met(a, b) ? 1 : 0;
    }

    /** "a or b is not 0 .. 5" */
    private static void noSuchObject() {
        for (int other = -1; other <= 6; other++) {
            CHECK.refused("met(-1, " + other + ")", met(-1, other), Check.NO_SUCH);
            CHECK.refused("met(" + other + ", -1)", met(other, -1), Check.NO_SUCH);
            CHECK.refused("met(6, " + other + ")", met(6, other), Check.NO_SUCH);
            CHECK.refused("met(" + other + ", 6)", met(other, 6), Check.NO_SUCH);
        }
        for (int no : Check.FAR_OUT) {
            CHECK.refused("met(" + no + ", 0)", met(no, 0), Check.NO_SUCH);
            CHECK.refused("met(0, " + no + ")", met(0, no), Check.NO_SUCH);
        }
        CHECK.taken("met(0, 5)", met(0, 5));
        CHECK.taken("met(5, 0)", met(5, 0));
    }

    /** "or they are the same" */
    private static void theSame() {
        for (int object = 0; object < 6; object++) {
            CHECK.refused("met(" + object + ", " + object + ")", met(object, object), Check.NO_SUCH);
        }
    }

    /** "each two that were at one pixel" */
    private static void eachTwoOfThem() {
        for (int objects = 0; objects < 64; objects++) {
            Beam x = new Beam();
            for (int object = 0; object < 6; object++) {
                if ((objects >> object & 1) != 0) {
                    x.write(SHOWING[object][0], SHOWING[object][1]);
                }
            }
            x.sync();
            int due = 0;
            for (int a = 0; a < 6; a++) {
                for (int b = 0; b < 6; b++) {
                    if (a == b) {
                        continue;
                    }
                    boolean both = (objects >> a & 1) != 0 && (objects >> b & 1) != 0;
                    CHECK.due("met(" + a + ", " + b + ") with " + objects, x.met(a, b), both);
                    due += both && a < b ? 1 : 0;
                }
            }
            CHECK.due("meetings with " + objects, x.count(4), due);
        }
    }

    private static Beam twoAtPixel0() {
        return Beam.written(9, 128, 10, 128);
    }

    /** "when it was drawn" */
    private static void whenThePixelIsDrawn() {
        Beam x = twoAtPixel0();
        x.clocks(68);
        CHECK.due("pixel 0 is not drawn yet", x.met(0, 1), false);
        x.clocks(1);
        CHECK.due("pixel 0 is drawn", x.met(0, 1), true);
        x = twoAtPixel0();
        x.clocks(68);
        x.write(9, 0);
        x.sync();
        CHECK.due("written away a clock before", x.met(0, 1), false);
    }

    /** "whether blank or not" */
    private static void whetherBlankOrNot() {
        for (int a = 0; a < 6; a++) {
            for (int b = a + 1; b < 6; b++) {
                Beam x = Beam.written(4, 1).writes(SHOWING[a]).writes(SHOWING[b]);
                x.sync();
                CHECK.due("blank, met(" + a + ", " + b + ")", x.met(a, b), true);
                CHECK.due("blank, met(" + b + ", " + a + ")", x.met(b, a), true);
                CHECK.due("blank, meetings", x.count(4), 1);
            }
        }
    }

    /** "35 no MEETINGS" */
    private static void noMeetingsBehindRegister35() {
        Beam x = new Beam();
        for (int[] showing : SHOWING) {
            x.writes(showing);
        }
        x.sync();
        CHECK.due("meetings", x.count(4), 15);
        x.write(35, 0);
        CHECK.due("meetings behind register 35", x.count(4), 0);
        for (int a = 0; a < 6; a++) {
            for (int b = 0; b < 6; b++) {
                CHECK.due("met(" + a + ", " + b + ") behind register 35", a != b && x.met(a, b), false);
            }
        }
        x.clocks(68);
        CHECK.due("none before they are drawn", x.count(4), 0);
        x.clocks(1);
        CHECK.due("all as they are drawn again", x.count(4), 15);
    }

    private static void meetingsAreKept() {
        Beam x = twoAtPixel0();
        x.sync();
        x.write(9, 0);
        x.sync();
        CHECK.due("kept", x.met(1, 0), true);
        x.write(35, 0);
        x.sync();
        CHECK.due("not met again", x.met(1, 0), false);
    }

    /** "at one pixel": neighbours do not meet, nor do those who are there one behind the other. */
    private static void atOnePixel() {
        Beam x = Beam.written(9, 128, 10, 64);
        x.clocks(2000);
        CHECK.due("neighbours", x.met(0, 1), false);
        CHECK.due("meetings", x.count(4), 0);
        x = Beam.written(9, 128);
        x.sync();
        x.writes(9, 0, 10, 128);
        x.sync();
        CHECK.due("one line behind the other", x.count(4), 0);
    }

    private static void atTheFirstAndTheLastPixel() {
        for (int pixel : new int[] {0, 159}) {
            Beam x = Beam.written(13, 2, 19, 2).put(4, pixel).put(2, pixel);
            x.sync();
            x.write(35, 0);
            x.clocks(68 + pixel);
            CHECK.due("before pixel " + pixel, x.met(2, 4), false);
            x.clocks(1);
            CHECK.due("behind pixel " + pixel, x.met(2, 4), true);
        }
    }

    private static void lockedMissilesDoNotMeet() {
        Beam x = Beam.written(19, 2, 21, 2, 13, 2);
        x.sync();
        CHECK.due("a locked missile and the ball", x.met(2, 4), false);
    }
}
