/** Promise 5: pixel, with who hides whom. */
public final class PixelTest {
    private static final Check CHECK = new Check();
    private static final int[] COLOURS = {0, 10, 1, 20, 2, 30, 3, 40};

    public static void main(String[] args) {
        noSuchPixel();
        whoHidesWhom();
        everyColour();
        score();
        scoreAndTheBall();
        ahead();
        blank();
        latestDrawn();
        roundTheLine();
        CHECK.end();
    }

    /** "NoSuchElementException": there is no such pixel. */
    private static void noSuchPixel() {
        CHECK.refused("pixel(-1)", x -> x.pixel(-1), Check.NO_SUCH);
        CHECK.refused("pixel(160)", x -> x.pixel(160), Check.NO_SUCH);
        for (int at : Check.FAR_OUT) {
            CHECK.refused("pixel(" + at + ")", x -> x.pixel(at), Check.NO_SUCH);
        }
        Beam x = Beam.written(0, 7);
        x.sync();
        for (int at = 0; at < 160; at++) {
            CHECK.due("pixel(" + at + ")", x.pixel(at), 7);
        }
    }

    /** Those of the six whose bit is 1 stand at a pixel, which is drawn. */
    private static int drawn(int objects, int control, int pixel) {
        Beam x = Beam.written(COLOURS);
        for (int object = 0; object < 5; object++) {
            x.put(object, pixel);
        }
        x.write(9, (objects & 1) != 0 ? 128 : 0);
        x.write(10, (objects & 2) != 0 ? 128 : 0);
        x.write(19, (objects & 4) != 0 ? 2 : 0);
        x.write(20, (objects & 8) != 0 ? 2 : 0);
        x.write(13, (objects & 16) != 0 ? 2 : 0);
        int field = (objects & 32) != 0 ? 255 : 0;
        x.writes(5, field, 6, field, 7, field, 8, control);
        x.sync();
        x.sync();
        return x.pixel(pixel);
    }

    private static int colourDue(int objects, boolean score, boolean ahead, boolean left) {
        boolean side0 = (objects & 5) != 0;
        boolean side1 = (objects & 10) != 0;
        boolean ball = (objects & 16) != 0;
        boolean field = (objects & 32) != 0;
        int fieldDue = score && field ? (left ? 30 : 40) : 20;
        if (ahead && (ball || field)) {
            return fieldDue;
        }
        return side0 ? 30 : side1 ? 40 : ball || field ? fieldDue : 10;
    }

    /** All that can be together at a pixel, at both ends of both halves. */
    private static void whoHidesWhom() {
        for (int pixel : new int[] {0, 79, 80, 159}) {
            for (int objects = 0; objects < 64; objects++) {
                for (int control = 0; control < 8; control++) {
                    int due = colourDue(objects, (control & 2) != 0, (control & 4) != 0, pixel < 80);
                    CHECK.due("pixel(" + pixel + ") with objects " + objects + ", register 8 " + control,
                            drawn(objects, control, pixel), due);
                }
            }
        }
    }

    /** "Its colour is that of its register": every value of each, shown by each object that has it. */
    private static void everyColour() {
        int[][] showing = {{9, 128}, {10, 128}, {19, 2}, {20, 2}, {13, 2}, {5, 16}, {}};
        int[] registers = {2, 3, 2, 3, 1, 1, 0};
        for (int object = 0; object < showing.length; object++) {
            for (int v = 0; v < 256; v++) {
                Beam x = Beam.written(0, 5, 1, 5, 2, 5, 3, 5).writes(showing[object]).writes(registers[object], v);
                x.sync();
                CHECK.due("object " + object + " in colour " + v, x.pixel(0), v);
                CHECK.due("the background beside it", x.pixel(79), object == 6 ? v : 5);
            }
        }
    }

    /** "with SCORE the playfield .. has colour 2 in the left half, 3 in the right one" */
    private static void score() {
        Beam x = Beam.written(COLOURS).writes(5, 255, 6, 255, 7, 255, 8, 2);
        x.sync();
        for (int at = 0; at < 160; at++) {
            CHECK.due("score, pixel(" + at + ")", x.pixel(at), at < 80 ? 30 : 40);
        }
        x.write(8, 0);
        x.sync();
        for (int at = 0; at < 160; at++) {
            CHECK.due("no score, pixel(" + at + ")", x.pixel(at), 20);
        }
    }

    /** "the ball, if the playfield is not there, has 1" */
    private static void scoreAndTheBall() {
        for (int pixel : new int[] {0, 79, 80, 159}) {
            CHECK.due("score, the ball alone", drawn(16, 2, pixel), 20);
            CHECK.due("score, the ball and the playfield", drawn(48, 2, pixel), pixel < 80 ? 30 : 40);
            CHECK.due("score, background", drawn(0, 2, pixel), 10);
            CHECK.due("score ahead, the ball and players", drawn(19, 6, pixel), 20);
        }
    }

    /** "with AHEAD the playfield or ball comes first" */
    private static void ahead() {
        for (int others = 0; others < 16; others++) {
            CHECK.due("ahead, the playfield", drawn(32 | others, 4, 50), 20);
            CHECK.due("ahead, the ball", drawn(16 | others, 4, 50), 20);
            CHECK.due("ahead, playfield and ball", drawn(48 | others, 4, 50), 20);
            CHECK.due("ahead, none of them", drawn(others, 4, 50), (others & 5) != 0 ? 30 : others != 0 ? 40 : 10);
        }
    }

    /** "It is 0 if BLANK." */
    private static void blank() {
        Beam x = Beam.written(COLOURS).writes(5, 255, 9, 255, 10, 255, 13, 2, 19, 2, 20, 2);
        x.sync();
        x.write(4, 1);
        x.sync();
        for (int at = 0; at < 160; at++) {
            CHECK.due("blank pixel(" + at + ")", x.pixel(at), 0);
        }
        CHECK.due("blank pixels are drawn", x.count(5), 320);
        x.clocks(138);
        x.write(4, 0);
        x.clocks(10);
        x.write(4, 255);
        x.sync();
        CHECK.due("blank up to here", x.pixel(69), 0);
        CHECK.due("blank no more", x.pixel(70), 10);
        CHECK.due("not blank yet", x.pixel(79), 10);
        CHECK.due("blank again", x.pixel(80), 0);
        x.write(4, 254);
        x.sync();
        CHECK.due("bit 0 alone blanks", x.pixel(159), 10);
    }

    /** "The colour that was drawn at a pixel latest." */
    private static void latestDrawn() {
        Beam x = Beam.written(0, 1);
        x.sync();
        x.write(0, 2);
        CHECK.due("nothing drawn since", x.pixel(0), 1);
        x.clocks(68);
        CHECK.due("clocks 0 .. 67 draw nothing", x.pixel(0), 1);
        x.clocks(1);
        CHECK.due("the newer line's pixel", x.pixel(0), 2);
        CHECK.due("the older line's pixel", x.pixel(1), 1);
        CHECK.due("the older line's last pixel", x.pixel(159), 1);
    }

    /** "All of it goes round from 159 to 0", on the line as it is drawn. */
    private static void roundTheLine() {
        Beam x = Beam.written(COLOURS).put(0, 156).put(3, 158).writes(9, 255, 20, 2, 18, 0x30);
        x.sync();
        x.sync();
        for (int at = 0; at < 160; at++) {
            int due = at < 4 || at > 155 ? 30 : at < 6 ? 40 : 10;
            CHECK.due("pixel(" + at + ") round the line", x.pixel(at), due);
        }
    }
}
