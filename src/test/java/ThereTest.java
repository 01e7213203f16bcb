/** Promise 8: there, with players, copies, missiles, ball and playfield. */
public final class ThereTest {
    private static final Check CHECK = new Check();
    private static final int[][] STARTS = {{0}, {0, 16}, {0, 32}, {0, 16, 32}, {0, 64}, {0}, {0, 32, 64}, {0}};
    private static final int[] BIT_WIDTHS = {1, 1, 1, 1, 1, 2, 1, 4};

    public static void main(String[] args) {
        noSuchObject();
        noSuchPixel();
        players();
        reversedPlayers();
        everyShape();
        ball();
        playfield();
        playersGoRound();
        missilesGoRound();
        theBallGoesRound();
        asAllIsNow();
        CHECK.end();
    }

    private static Check.Question there(int object, int at) {
        return x -> x.there(object, at) ? 1 : 0;
    }

    /** "an object 0 .. 5" */
    private static void noSuchObject() {
        for (int at : new int[] {-1, 0, 159, 160}) {
            CHECK.refused("there(-1, " + at + ")", there(-1, at), Check.NO_SUCH);
            CHECK.refused("there(6, " + at + ")", there(6, at), Check.NO_SUCH);
            for (int object : Check.FAR_OUT) {
                CHECK.refused("there(" + object + ", " + at + ")", there(object, at), Check.NO_SUCH);
            }
        }
    }

    /** "there is no such .. pixel" */
    private static void noSuchPixel() {
        for (int object = 0; object < 6; object++) {
            CHECK.refused("there(" + object + ", -1)", there(object, -1), Check.NO_SUCH);
            CHECK.refused("there(" + object + ", 160)", there(object, 160), Check.NO_SUCH);
            for (int at : Check.FAR_OUT) {
                CHECK.refused("there(" + object + ", " + at + ")", there(object, at), Check.NO_SUCH);
            }
            CHECK.taken("there(" + object + ", 0)", there(object, 0));
            CHECK.taken("there(" + object + ", 159)", there(object, 159));
        }
    }

    private static void players() {
        String[] due = {"0 7", "0 7 16 23", "0 7 32 39", "0 7 16 23 32 39", "0 7 64 71", "0-1 14-15", "0 7 32 39 64 71",
            "0-3 28-31"};
        String[] full = {"0-7", "0-7 16-23", "0-7 32-39", "0-7 16-23 32-39", "0-7 64-71", "0-15", "0-7 32-39 64-71",
            "0-31"};
        for (int player = 0; player < 2; player++) {
            for (int copies = 0; copies < 8; copies++) {
                Beam x = Beam.written(9 + player, 129, 17 + player, copies | 0x30);
                CHECK.isWhere("129 with copies " + copies, x, player, due[copies]);
                x.write(9 + player, 255);
                CHECK.isWhere("255 with copies " + copies, x, player, full[copies]);
                x.write(9 + player, 0);
                CHECK.isWhere("0 with copies " + copies, x, player, "");
                CHECK.isWhere("the other one", x, 1 - player, "");
            }
        }
    }

    /** "reversed: bit 0 first" */
    private static void reversedPlayers() {
        for (int player = 0; player < 2; player++) {
            Beam x = Beam.written(9 + player, 0xD0);
            CHECK.isWhere("0xD0", x, player, "0-1 3");
            x.write(15 + player, 8);
            CHECK.isWhere("0xD0 reversed", x, player, "4 6-7");
            x.write(17 + player, 5);
            CHECK.isWhere("0xD0 reversed, two wide", x, player, "8-9 12-15");
            x.write(17 + player, 7);
            CHECK.isWhere("0xD0 reversed, four wide", x, player, "16-19 24-31");
            x.write(17 + player, 1);
            CHECK.isWhere("0xD0 reversed, a copy", x, player, "4 6-7 20 22-23");
        }
    }

    /** "eight bits of its shape .. bit 7 first (reversed: bit 0 first)", of the new one and of the old one. */
    private static void everyShape() {
        for (int player = 0; player < 2; player++) {
            for (int shape = 0; shape < 256; shape++) {
                shapeIs(player, shape, false);
                shapeIs(player, shape, true);
            }
        }
    }

    private static void shapeIs(int player, int shape, boolean reversed) {
        boolean[] due = new boolean[160];
        for (int i = 0; i < 8; i++) {
            due[i] = (shape >> (reversed ? i : 7 - i) & 1) != 0;
        }
        Beam x = Beam.written(9 + player, shape, 15 + player, reversed ? 8 : 0);
        isAt("shape " + shape + ", reversed " + reversed, x, player, due);
        x.writes(10 - player, 0, 9 + player, 255 - shape, 11 + player, 1);
        isAt("old shape " + shape + ", reversed " + reversed, x, player, due);
    }

    /** "it is 1, 2, 4 or 8 pixels wide", without copies. */
    private static void ball() {
        String[] due = {"2", "2-3", "2-5", "2-9"};
        for (int size = 0; size < 4; size++) {
            Beam x = Beam.written(13, 2, 8, size << 4, 17, 3, 32, 0);
            CHECK.isWhere("the ball of size " + size, x, 4, due[size]);
            x.write(13, 1);
            CHECK.isWhere("no ball", x, 4, "");
        }
    }

    /** "Each is four pixels wide; they are the left half of the line, and the right one, too" */
    private static void playfield() {
        for (int bit = 0; bit < 20; bit++) {
            int register = bit < 4 ? 5 : bit < 12 ? 6 : 7;
            int value = bit < 4 ? 16 << bit : bit < 12 ? 2048 >> bit : 1 << (bit - 12);
            for (int mirror = 0; mirror < 2; mirror++) {
                Beam x = Beam.written(register, value, 8, mirror);
                int right = 20 + (mirror == 0 ? bit : 19 - bit);
                for (int at = 0; at < 160; at++) {
                    boolean due = at / 4 == bit || at / 4 == right;
                    CHECK.due("bit " + bit + ", register 8 " + mirror + ", there(5, " + at + ")", x.there(5, at), due);
                }
            }
        }
        CHECK.isWhere("the lower half of register 5", Beam.written(5, 15), 5, "");
        CHECK.isWhere("all of it", Beam.written(5, 240, 6, 255, 7, 255), 5, "0-159");
    }

    /** Adds the pixels of something wide, from a start on, round the line's end. */
    private static void add(boolean[] pixels, int start, int width) {
        for (int i = 0; i < width; i++) {
            pixels[(start + i) % 160] = true;
        }
    }

    private static void isAt(String what, Beam x, int object, boolean[] due) {
        for (int at = 0; at < 160; at++) {
            CHECK.due(what + ": there(" + object + ", " + at + ")", x.there(object, at), due[at]);
        }
    }

    /** "All of it goes round from 159 to 0": players, with each number of copies, at each place. */
    private static void playersGoRound() {
        for (int player = 0; player < 2; player++) {
            for (int copies = 0; copies < 8; copies++) {
                for (int place = 0; place < 160; place++) {
                    playerAt(player, copies, place, false);
                    playerAt(player, copies, place, true);
                }
            }
        }
    }

    private static void playerAt(int player, int copies, int place, boolean reversed) {
        int shape = 0xB1;
        boolean[] due = new boolean[160];
        for (int start : STARTS[copies]) {
            for (int i = 0; i < 8; i++) {
                if ((shape >> (reversed ? i : 7 - i) & 1) != 0) {
                    add(due, place + start + i * BIT_WIDTHS[copies], BIT_WIDTHS[copies]);
                }
            }
        }
        Beam x = Beam.written(9 + player, shape, 15 + player, reversed ? 8 : 0, 17 + player, copies);
        isAt("copies " + copies + ", place " + place + ", reversed " + reversed, x.put(player, place), player, due);
    }

    /** "All of it goes round from 159 to 0": missiles, with each number of copies and each size, at each place. */
    private static void missilesGoRound() {
        for (int side = 0; side < 2; side++) {
            for (int copies = 0; copies < 8; copies++) {
                for (int size = 0; size < 4; size++) {
                    for (int place = 0; place < 160; place++) {
                        missileAt(side, copies, size, place);
                    }
                }
            }
        }
    }

    private static void missileAt(int side, int copies, int size, int place) {
        boolean[] due = new boolean[160];
        for (int start : STARTS[copies]) {
            add(due, place + start, 1 << size);
        }
        Beam x = Beam.written(19 + side, 2, 17 + side, size << 4 | copies).put(2 + side, place);
        isAt("copies " + copies + ", size " + size + ", place " + place, x, 2 + side, due);
        CHECK.due("the other missile", x.there(3 - side, place), false);
        x.write(21 + side, 2);
        isAt("a locked missile", x, 2 + side, new boolean[160]);
    }

    /** "All of it goes round from 159 to 0": the ball, with each size, at each place. */
    private static void theBallGoesRound() {
        for (int size = 0; size < 4; size++) {
            for (int place = 0; place < 160; place++) {
                boolean[] due = new boolean[160];
                add(due, place, 1 << size);
                isAt("size " + size + ", place " + place, Beam.written(13, 2, 8, size << 4).put(4, place), 4, due);
            }
        }
    }

    /** "as all is now" */
    private static void asAllIsNow() {
        Beam x = new Beam();
        x.sync();
        x.write(9, 128);
        CHECK.due("written, not drawn", x.there(0, 0), true);
        x.write(4, 1);
        CHECK.due("blank or not", x.there(0, 0), true);
        x.writes(8, 4, 5, 16);
        CHECK.due("hidden or not", x.there(0, 0), true);
        x.write(9, 0);
        CHECK.due("written away", x.there(0, 0), false);
    }
}
