/** Promise 6: met. */
public final class MetTest {
    private static final Check CHECK = new Check();
    /** What brings objects 0 .. 5 to pixel 0, register and value. */
    private static final int[][] SHOWING = {{9, 128}, {10, 128}, {19, 2}, {20, 2}, {13, 2}, {5, 16}};

    public static void main(String[] args) {
        eachTwoOfThem();
        onlyWhenDrawn();
        blankOnesMeetToo();
        meetingsAreKept();
        neighboursDoNotMeet();
        lockedMissilesDoNotMeet();
        wrongCalls();
        CHECK.end();
    }

    private static void eachTwoOfThem() {
        for (int objects = 0; objects < 64; objects++) {
            BeamDrawer x = new BeamDrawer();
            for (int object = 0; object < 6; object++) {
                if ((objects >> object & 1) != 0) {
                    x.write(SHOWING[object][0], SHOWING[object][1]);
                }
            }
            x.sync();
            int due = 0;
            for (int a = 0; a < 6; a++) {
                for (int b = 0; b < 6; b++) {
                    if (a == b) {
                        continue;
                    }
                    boolean both = (objects >> a & 1) != 0 && (objects >> b & 1) != 0;
                    CHECK.due("met(" + a + ", " + b + ") with " + objects, x.met(a, b), both);
                    due += both && a < b ? 1 : 0;
                }
            }
            CHECK.due("meetings with " + objects, x.count(4), due);
        }
    }

    private static void onlyWhenDrawn() {
        BeamDrawer x = Check.written(9, 128, 10, 128);
        x.clocks(68);
        CHECK.due("pixel 0 is not drawn yet", x.met(0, 1), false);
        x.clocks(1);
        CHECK.due("pixel 0 is drawn", x.met(0, 1), true);
    }

    private static void blankOnesMeetToo() {
        BeamDrawer x = Check.written(9, 128, 10, 128, 4, 1);
        x.sync();
        CHECK.due("blank", x.met(0, 1), true);
    }

    private static void meetingsAreKept() {
        BeamDrawer x = Check.written(9, 128, 10, 128);
        x.sync();
        x.write(9, 0);
        x.sync();
        CHECK.due("kept", x.met(1, 0), true);
        x.write(35, 0);
        x.sync();
        CHECK.due("not met again", x.met(1, 0), false);
    }

    private static void neighboursDoNotMeet() {
        BeamDrawer x = Check.written(9, 128, 10, 64);
        x.clocks(2000);
        CHECK.due("neighbours", x.met(0, 1), false);
        CHECK.due("meetings", x.count(4), 0);
    }

    private static void lockedMissilesDoNotMeet() {
        BeamDrawer x = Check.written(19, 2, 21, 2, 13, 2);
        x.sync();
        CHECK.due("a locked missile and the ball", x.met(2, 4), false);
    }

    private static void wrongCalls() {
        BeamDrawer x = Check.written(9, 128, 10, 128);
        x.sync();
        for (int no : new int[] {-1, 6, Integer.MIN_VALUE, Integer.MAX_VALUE}) {
            CHECK.refused(x, "met(" + no + ", 0)", () -> met(x, no, 0), Check.NO_SUCH);
            CHECK.refused(x, "met(0, " + no + ")", () -> met(x, 0, no), Check.NO_SUCH);
        }
        for (int same = -1; same < 7; same++) {
            int object = same;
            CHECK.refused(x, "met of one with itself", () -> met(x, object, object), Check.NO_SUCH);
        }
    }

    private static long met(BeamDrawer x, int a, int b) {
        return x.met(a, b) ? 1 : 0;
    }
}
