/** Promise 2: registers 0 .. 35, the copies, old and new ones, and locked missiles. */
public final class WriteTest {
    private static final Check CHECK = new Check();

    public static void main(String[] args) {
        whatIsWrittenHoldsFromTheNextClockOn();
        shapesOldAndNew();
        theBallOldAndNew();
        locksEndAtThePlayer();
        onlyTheEndOfALockMoves();
        motionsAndMeetingsAreCleared();
        onlyTheNamedBitsCount();
        wrongCalls();
        CHECK.end();
    }

    private static void whatIsWrittenHoldsFromTheNextClockOn() {
        BeamDrawer x = Check.written(0, 11);
        x.clocks(68 + 10);
        x.write(0, 22);
        CHECK.due("a pixel drawn before", x.pixel(9), 11);
        CHECK.due("a pixel not drawn yet", x.pixel(10), 0);
        x.clocks(1);
        CHECK.due("the next pixel", x.pixel(10), 22);
        CHECK.due("the pixel before it", x.pixel(9), 11);
        x.write(0, 255);
        x.sync();
        CHECK.due("the line's last pixel", x.pixel(159), 255);
    }

    private static void shapesOldAndNew() {
        BeamDrawer x = Check.written(9, 128);
        CHECK.isWhere("the new shape", x, 0, "0");
        x.write(11, 1);
        CHECK.isWhere("the old shape, none yet", x, 0, "");
        x.write(10, 64);
        CHECK.isWhere("the old shape, as register 10 was written", x, 0, "0");
        x.write(9, 1);
        CHECK.isWhere("the old shape stays", x, 0, "0");
        x.write(12, 1);
        CHECK.isWhere("player 1's old shape, by register 9", x, 1, "1");
        x.write(10, 32);
        CHECK.isWhere("player 1's old shape stays", x, 1, "1");
        CHECK.isWhere("player 0's old shape, once more", x, 0, "7");
        Check.write(x, 11, 0, 12, 0);
        CHECK.isWhere("player 0's new shape", x, 0, "7");
        CHECK.isWhere("player 1's new shape", x, 1, "2");
    }

    private static void theBallOldAndNew() {
        BeamDrawer x = Check.written(13, 2, 14, 1);
        CHECK.isWhere("the old ball, none yet", x, 4, "");
        x.write(9, 0);
        CHECK.isWhere("register 9 leaves the ball alone", x, 4, "");
        x.write(10, 0);
        CHECK.isWhere("the old ball by register 10", x, 4, "0");
        x.write(13, 0);
        CHECK.isWhere("the old ball stays", x, 4, "0");
        x.write(14, 0);
        CHECK.isWhere("the new ball", x, 4, "");
        Check.write(x, 14, 1, 10, 0);
        CHECK.isWhere("the old ball becomes the new one", x, 4, "");
    }

    private static void locksEndAtThePlayer() {
        int[] further = {4, 4, 4, 4, 4, 8, 4, 16};
        for (int side = 0; side < 2; side++) {
            for (int copies = 0; copies < 8; copies++) {
                BeamDrawer x = Check.written(17 + side, copies | 0xC8, 19 + side, 2);
                x.clocks(68 + 150);
                x.write(28 + side, 0);
                CHECK.due("missile's place before", x.place(2 + side), 0);
                x.write(21 + side, 2);
                CHECK.isWhere("a locked missile", x, 2 + side, "");
                CHECK.due("missile's place in the lock", x.place(2 + side), 0);
                x.write(21 + side, 0xFD);
                CHECK.due("place behind a lock with copies " + copies, x.place(2 + side), (155 + further[copies]) % 160);
                CHECK.due("the other missile", x.place(3 - side), 0);
                CHECK.due("there again", x.there(2 + side, x.place(2 + side)), true);
            }
        }
    }

    private static void onlyTheEndOfALockMoves() {
        BeamDrawer x = new BeamDrawer();
        x.clocks(100);
        Check.write(x, 28, 0, 21, 0);
        CHECK.due("unlocked before and behind", x.place(2), 0);
        Check.write(x, 21, 1, 21, 0);
        CHECK.due("bit 0 locks nothing", x.place(2), 0);
        Check.write(x, 21, 2, 21, 255);
        CHECK.due("locked before and behind", x.place(2), 0);
        x.write(30, 0);
        CHECK.due("placed in the lock", x.place(2), 36);
        Check.write(x, 25, 0x30, 33, 0);
        CHECK.due("moved in the lock", x.place(2), 33);
        x.write(21, 0);
        CHECK.due("the lock ends", x.place(2), 41);
        Check.write(x, 28, 0, 33, 0, 21, 0);
        CHECK.due("it has ended already", x.place(2), 38);
    }

    private static void motionsAndMeetingsAreCleared() {
        BeamDrawer x = Check.written(23, 0x10, 24, 0x10, 25, 0x10, 26, 0x10, 27, 0x10, 34, 255, 33, 255);
        for (int object = 0; object < 5; object++) {
            CHECK.due("place without motion", x.place(object), 0);
        }
        Check.write(x, 23, 0x10, 33, 0, 33, 0);
        CHECK.due("a motion stays", x.place(0), 158);

        x = Check.written(9, 255, 10, 255, 13, 2);
        x.sync();
        CHECK.due("meetings", x.count(4), 3);
        x.write(35, 255);
        CHECK.due("no meetings", x.count(4), 0);
        CHECK.due("0 and 1 have not met", x.met(0, 1), false);
        x.sync();
        CHECK.due("meetings, again", x.count(4), 3);
    }

    private static void onlyTheNamedBitsCount() {
        BeamDrawer x = Check.written(5, 15, 8, 0xC8, 11, 254, 12, 254, 13, 253, 14, 254, 15, 247, 16, 247);
        Check.write(x, 17, 0xC8, 18, 0xC8, 19, 253, 20, 253, 21, 253, 22, 253, 4, 254, 0, 3);
        x.sync();
        for (int object = 0; object < 6; object++) {
            CHECK.isWhere("bits without a meaning", x, object, "");
        }
        CHECK.due("not blank", x.pixel(80), 3);
        Check.write(x, 9, 1, 10, 2, 13, 2, 19, 2, 20, 2);
        CHECK.isWhere("not reversed", x, 0, "7");
        CHECK.isWhere("not reversed", x, 1, "6");
        for (int object = 2; object < 5; object++) {
            CHECK.isWhere("one pixel wide", x, object, "0");
        }
        Check.write(x, 23, 15, 33, 0);
        CHECK.due("the lower four bits are no motion", x.place(0), 0);
    }

    private static void wrongCalls() {
        BeamDrawer x = Check.written(0, 1, 9, 85, 13, 2, 19, 2, 21, 2);
        x.clocks(150);
        int[] noRegisters = {-1, 36, 1000, Integer.MIN_VALUE, Integer.MAX_VALUE};
        for (int register : noRegisters) {
            for (int v : new int[] {0, 255, -1, 256}) {
                CHECK.refused(x, "write(" + register + ", " + v + ")", () -> written(x, register, v), Check.NO_SUCH);
            }
        }
        int[] noValues = {-1, 256, Integer.MIN_VALUE, Integer.MAX_VALUE};
        for (int register = 0; register < 36; register++) {
            int at = register;
            for (int v : noValues) {
                CHECK.refused(x, "write(" + at + ", " + v + ")", () -> written(x, at, v), Check.ILLEGAL);
            }
            CHECK.due("write(" + at + ", 0)", Check.outcome(() -> written(new BeamDrawer(), at, 0)), 0);
            CHECK.due("write(" + at + ", 255)", Check.outcome(() -> written(new BeamDrawer(), at, 255)), 0);
        }
    }

    private static long written(BeamDrawer x, int register, int v) {
        x.write(register, v);
        return 0;
    }
}
