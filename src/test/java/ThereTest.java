/** Promise 8: there, with players, copies, missiles, ball and playfield. */
public final class ThereTest {
    private static final Check CHECK = new Check();

    public static void main(String[] args) {
        players();
        reversedPlayers();
        missiles();
        ball();
        playfield();
        roundTheLine();
        asAllIsNow();
        wrongCalls();
        CHECK.end();
    }

    private static void players() {
        String[] due = {"0 7", "0 7 16 23", "0 7 32 39", "0 7 16 23 32 39", "0 7 64 71", "0-1 14-15", "0 7 32 39 64 71",
            "0-3 28-31"};
        String[] full = {"0-7", "0-7 16-23", "0-7 32-39", "0-7 16-23 32-39", "0-7 64-71", "0-15", "0-7 32-39 64-71",
            "0-31"};
        for (int player = 0; player < 2; player++) {
            for (int copies = 0; copies < 8; copies++) {
                BeamDrawer x = Check.written(9 + player, 129, 17 + player, copies | 0x30);
                CHECK.isWhere("129 with copies " + copies, x, player, due[copies]);
                x.write(9 + player, 255);
                CHECK.isWhere("255 with copies " + copies, x, player, full[copies]);
                CHECK.isWhere("the other one", x, 1 - player, "");
            }
        }
    }

    private static void reversedPlayers() {
        for (int player = 0; player < 2; player++) {
            BeamDrawer x = Check.written(9 + player, 0xD0);
            CHECK.isWhere("0xD0", x, player, "0-1 3");
            x.write(15 + player, 8);
            CHECK.isWhere("0xD0 reversed", x, player, "4 6-7");
            x.write(17 + player, 5);
            CHECK.isWhere("0xD0 reversed, two wide", x, player, "8-9 12-15");
            x.write(17 + player, 7);
            CHECK.isWhere("0xD0 reversed, four wide", x, player, "16-19 24-31");
            x.write(17 + player, 1);
            CHECK.isWhere("0xD0 reversed, a copy", x, player, "4 6-7 20 22-23");
        }
    }

    private static void missiles() {
        int[][] starts = {{0}, {0, 16}, {0, 32}, {0, 16, 32}, {0, 64}, {0}, {0, 32, 64}, {0}};
        for (int side = 0; side < 2; side++) {
            for (int copies = 0; copies < 8; copies++) {
                for (int size = 0; size < 4; size++) {
                    BeamDrawer x = Check.written(19 + side, 2, 17 + side, size << 4 | copies);
                    StringBuilder due = new StringBuilder();
                    for (int start : starts[copies]) {
                        due.append(start == 0 ? "" : " ").append(start);
                        due.append(size == 0 ? "" : "-" + (start + (1 << size) - 1));
                    }
                    CHECK.isWhere("copies " + copies + ", size " + size, x, 2 + side, due.toString());
                    CHECK.isWhere("the other missile", x, 3 - side, "");
                    x.write(21 + side, 2);
                    CHECK.isWhere("a locked missile", x, 2 + side, "");
                }
            }
        }
    }

    private static void ball() {
        String[] due = {"2", "2-3", "2-5", "2-9"};
        for (int size = 0; size < 4; size++) {
            BeamDrawer x = Check.written(13, 2, 8, size << 4, 17, 3, 32, 0);
            CHECK.isWhere("the ball of size " + size, x, 4, due[size]);
            x.write(13, 1);
            CHECK.isWhere("no ball", x, 4, "");
        }
    }

    private static void playfield() {
        for (int bit = 0; bit < 20; bit++) {
            int register = bit < 4 ? 5 : bit < 12 ? 6 : 7;
            int value = bit < 4 ? 16 << bit : bit < 12 ? 2048 >> bit : 1 << (bit - 12);
            BeamDrawer x = Check.written(register, value);
            for (int mirror = 0; mirror < 2; mirror++) {
                x.write(8, mirror);
                int right = 80 + 4 * (mirror == 0 ? bit : 19 - bit);
                for (int at = 0; at < 160; at++) {
                    boolean due = at / 4 == bit || at / 4 == right / 4;
                    CHECK.due("bit " + bit + ", register 8 " + mirror + ", there(5, " + at + ")", x.there(5, at), due);
                }
            }
        }
        CHECK.isWhere("the lower half of register 5", Check.written(5, 15), 5, "");
    }

    private static void roundTheLine() {
        BeamDrawer x = Check.written(9, 255, 10, 255, 17, 0x33, 18, 7, 19, 2, 13, 2, 8, 0x30);
        x.clocks(68 + 150);
        Check.write(x, 28, 0, 29, 0, 30, 0, 32, 0);
        CHECK.isWhere("player 0 with copies", x, 0, "0-2 11-18 27-34 155-159");
        CHECK.isWhere("player 1, four wide", x, 1, "0-26 155-159");
        CHECK.isWhere("missile 0 with copies", x, 2, "0-1 10-17 26-33 154-159");
        CHECK.isWhere("the ball", x, 4, "0-1 154-159");
    }

    private static void asAllIsNow() {
        BeamDrawer x = new BeamDrawer();
        x.sync();
        x.write(9, 128);
        CHECK.due("written, not drawn", x.there(0, 0), true);
        x.write(4, 1);
        CHECK.due("blank or not", x.there(0, 0), true);
        x.write(9, 0);
        CHECK.due("written away", x.there(0, 0), false);
    }

    private static void wrongCalls() {
        BeamDrawer x = Check.written(9, 255, 5, 255);
        for (int no : new int[] {-1, 6, Integer.MIN_VALUE, Integer.MAX_VALUE}) {
            CHECK.refused(x, "there(" + no + ", 0)", () -> there(x, no, 0), Check.NO_SUCH);
        }
        for (int no : new int[] {-1, 160, Integer.MIN_VALUE, Integer.MAX_VALUE}) {
            for (int object = 0; object < 6; object++) {
                int of = object;
                CHECK.refused(x, "there(" + of + ", " + no + ")", () -> there(x, of, no), Check.NO_SUCH);
            }
        }
    }

    private static long there(BeamDrawer x, int object, int at) {
        return x.there(object, at) ? 1 : 0;
    }
}
