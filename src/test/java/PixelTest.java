/** Promise 5: pixel, with who hides whom. */
public final class PixelTest {
    private static final Check CHECK = new Check();
    private static final int[] COLOURS = {0, 10, 1, 20, 2, 30, 3, 40};

    public static void main(String[] args) {
        whoHidesWhom();
        score();
        blank();
        latestDrawn();
        wrongCalls();
        CHECK.end();
    }

    /** Those of the six whose bit is 1 stand at pixel 0. */
    private static BeamDrawer drawn(int objects, int control) {
        BeamDrawer x = Check.written(COLOURS);
        x.write(9, (objects & 1) != 0 ? 128 : 0);
        x.write(10, (objects & 2) != 0 ? 128 : 0);
        x.write(19, (objects & 4) != 0 ? 2 : 0);
        x.write(20, (objects & 8) != 0 ? 2 : 0);
        x.write(13, (objects & 16) != 0 ? 2 : 0);
        x.write(5, (objects & 32) != 0 ? 16 : 0);
        x.write(8, control);
        x.sync();
        return x;
    }

    private static int colourDue(int objects, boolean score, boolean ahead) {
        boolean side0 = (objects & 5) != 0;
        boolean side1 = (objects & 10) != 0;
        boolean ball = (objects & 16) != 0;
        boolean field = (objects & 32) != 0;
        int fieldDue = score && field ? 30 : 20;
        if (ahead && (ball || field)) {
            return fieldDue;
        }
        return side0 ? 30 : side1 ? 40 : ball || field ? fieldDue : 10;
    }

    private static void whoHidesWhom() {
        for (int objects = 0; objects < 64; objects++) {
            for (int control = 0; control < 8; control++) {
                int due = colourDue(objects, (control & 2) != 0, (control & 4) != 0);
                CHECK.due("pixel(0) with objects " + objects + ", register 8 " + control,
                        drawn(objects, control).pixel(0), due);
            }
        }
    }

    private static void score() {
        BeamDrawer x = drawn(32, 2);
        CHECK.due("score, left half", x.pixel(3), 30);
        CHECK.due("score, right half", x.pixel(80), 40);
        CHECK.due("score, background", x.pixel(4), 10);
        x = Check.written(COLOURS);
        Check.write(x, 6, 255, 7, 255, 5, 255, 8, 2);
        x.sync();
        CHECK.due("score, last of the left half", x.pixel(79), 30);
        CHECK.due("score, first of the right half", x.pixel(80), 40);
        CHECK.due("score, last of the right half", x.pixel(159), 40);
        Check.write(x, 5, 0, 6, 0, 7, 0, 13, 2);
        x.clocks(168);
        x.write(32, 0);
        x.sync();
        x.sync();
        CHECK.due("score, the ball alone in the right half", x.pixel(104), 20);
    }

    private static void blank() {
        BeamDrawer x = Check.written(COLOURS);
        Check.write(x, 4, 1, 5, 16);
        x.sync();
        CHECK.due("blank playfield", x.pixel(0), 0);
        CHECK.due("blank background", x.pixel(40), 0);
        x.clocks(78);
        x.write(4, 0);
        x.sync();
        CHECK.due("blank up to here", x.pixel(9), 0);
        CHECK.due("blank no more", x.pixel(10), 10);
    }

    private static void latestDrawn() {
        BeamDrawer x = Check.written(0, 1);
        x.sync();
        x.write(0, 2);
        CHECK.due("nothing drawn since", x.pixel(0), 1);
        x.clocks(68);
        CHECK.due("clocks 0 .. 67 draw nothing", x.pixel(0), 1);
        x.clocks(1);
        CHECK.due("the newer line's pixel", x.pixel(0), 2);
        CHECK.due("the older line's pixel", x.pixel(1), 1);
    }

    private static void wrongCalls() {
        BeamDrawer x = drawn(63, 0);
        for (int at : new int[] {-1, 160, Integer.MIN_VALUE, Integer.MAX_VALUE}) {
            CHECK.refused(x, "pixel(" + at + ")", () -> x.pixel(at), Check.NO_SUCH);
        }
    }
}
