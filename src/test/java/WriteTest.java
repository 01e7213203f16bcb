/** Promise 2: write, with the registers of "Terms" (their pixels: ThereTest and PixelTest). */
public final class WriteTest {
    private static final Check CHECK = new Check();

    public static void main(String[] args) {
        noSuchRegister();
        noSuchValue();
        bothWrong();
        firstAndLastRegister();
        whatIsWrittenHoldsFromTheNextClockOn();
        shapesOldAndNew();
        theBallOldAndNew();
        motionFromMinus8To7();
        motionGoesRound();
        eachHasItsOwnMotion();
        motionsBecome0();
        placesAtClocks0To67();
        placesModulo160();
        placesOnALaterLine();
        whateverIsWritten();
        locksEndAtThePlayer();
        onlyTheEndOfALockMoves();
        noMeetings();
        onlyTheNamedBitsCount();
        CHECK.end();
    }

    private static Check.Question write(int register, int v) {
        return x -> {
            x.write(register, v);
            return 0;
        };
    }

    /** "NoSuchElementException: it is not 0 .. 35." */
    private static void noSuchRegister() {
        for (int v : new int[] {0, 2, 255}) {
            CHECK.refused("write(-1, " + v + ")", write(-1, v), Check.NO_SUCH);
            CHECK.refused("write(36, " + v + ")", write(36, v), Check.NO_SUCH);
            for (int register : Check.FAR_OUT) {
                CHECK.refused("write(" + register + ", " + v + ")", write(register, v), Check.NO_SUCH);
            }
        }
        for (int register = 0; register < 36; register++) {
            CHECK.taken("write(" + register + ", 1)", write(register, 1));
        }
    }

    /** "IllegalArgumentException: v is not 0 .. 255.", at those registers, too, where it does not matter what is written. */
    private static void noSuchValue() {
        for (int register = 0; register < 36; register++) {
            CHECK.refused("write(" + register + ", -1)", write(register, -1), Check.ILLEGAL);
            CHECK.refused("write(" + register + ", 256)", write(register, 256), Check.ILLEGAL);
            for (int v : Check.FAR_OUT) {
                CHECK.refused("write(" + register + ", " + v + ")", write(register, v), Check.ILLEGAL);
            }
            CHECK.taken("write(" + register + ", 0)", write(register, 0));
            CHECK.taken("write(" + register + ", 255)", write(register, 255));
        }
    }

    /** The document names the register first. */
    private static void bothWrong() {
        for (int register : new int[] {-1, 36}) {
            for (int v : new int[] {-1, 256}) {
                CHECK.refused("write(" + register + ", " + v + ")", write(register, v), Check.NO_SUCH);
            }
        }
    }

    private static void firstAndLastRegister() {
        Beam x = Beam.written(0, 255, 9, 128, 10, 128);
        x.sync();
        CHECK.due("register 0 written with 255", x.pixel(159), 255);
        CHECK.due("meetings", x.count(4), 1);
        x.writes(0, 0, 35, 0);
        CHECK.due("meetings behind register 35", x.count(4), 0);
        x.sync();
        CHECK.due("register 0 written with 0", x.pixel(159), 0);
    }

    /** "what is written .. holds from the next clock on" */
    private static void whatIsWrittenHoldsFromTheNextClockOn() {
        Beam x = Beam.written(0, 11);
        x.clocks(68 + 10);
        x.write(0, 22);
        CHECK.due("a pixel drawn before", x.pixel(9), 11);
        CHECK.due("a pixel not drawn yet", x.pixel(10), 0);
        x.clocks(1);
        CHECK.due("the next pixel", x.pixel(10), 22);
        CHECK.due("the pixel before it", x.pixel(9), 11);
        x.write(0, 255);
        x.sync();
        CHECK.due("the line's last pixel", x.pixel(159), 255);
    }

    private static void shapesOldAndNew() {
        Beam x = Beam.written(9, 128);
        CHECK.isWhere("the new shape", x, 0, "0");
        x.write(11, 1);
        CHECK.isWhere("the old shape, none yet", x, 0, "");
        x.write(10, 64);
        CHECK.isWhere("the old shape, as register 10 was written", x, 0, "0");
        x.write(9, 1);
        CHECK.isWhere("the old shape stays", x, 0, "0");
        x.write(12, 1);
        CHECK.isWhere("player 1's old shape, by register 9", x, 1, "1");
        x.write(10, 32);
        CHECK.isWhere("player 1's old shape stays", x, 1, "1");
        CHECK.isWhere("player 0's old shape, once more", x, 0, "7");
        x.writes(11, 0, 12, 0);
        CHECK.isWhere("player 0's new shape", x, 0, "7");
        CHECK.isWhere("player 1's new shape", x, 1, "2");
    }

    private static void theBallOldAndNew() {
        Beam x = Beam.written(13, 2, 14, 1);
        CHECK.isWhere("the old ball, none yet", x, 4, "");
        x.write(9, 0);
        CHECK.isWhere("register 9 leaves the ball alone", x, 4, "");
        x.write(10, 0);
        CHECK.isWhere("the old ball by register 10", x, 4, "0");
        x.write(13, 0);
        CHECK.isWhere("the old ball stays", x, 4, "0");
        x.write(14, 0);
        CHECK.isWhere("the new ball", x, 4, "");
        x.writes(14, 1, 10, 0);
        CHECK.isWhere("the old ball becomes the new one", x, 4, "");
    }

    /** "the upper four bits, -8 .. 7": every value that can be written. */
    private static void motionFromMinus8To7() {
        int[] due = {0, 1, 2, 3, 4, 5, 6, 7, -8, -7, -6, -5, -4, -3, -2, -1};
        for (int v = 0; v < 256; v++) {
            for (int object = 0; object < 5; object++) {
                Beam x = new Beam().put(object, 80).writes(23 + object, v, 33, 0);
                CHECK.due("place by motion " + v, x.place(object), 80 - due[v / 16]);
                x.write(33, 255);
                CHECK.due("place by motion twice " + v, x.place(object), 80 - 2 * due[v / 16]);
            }
        }
    }

    /** "each place becomes it less its motion, modulo 160": from every place, by every motion. */
    private static void motionGoesRound() {
        for (int place = 0; place < 160; place++) {
            for (int motion = -8; motion <= 7; motion++) {
                int due = place - motion < 0 ? place - motion + 160 : place - motion > 159 ? place - motion - 160
                        : place - motion;
                for (int object = 0; object < 5; object++) {
                    Beam x = new Beam().put(object, place).writes(23 + object, motion << 4 & 255, 33, 0);
                    CHECK.due("place " + place + " moved by " + motion, x.place(object), due);
                }
            }
        }
    }

    private static void eachHasItsOwnMotion() {
        Beam x = Beam.written(23, 0x10, 24, 0xF0, 25, 0x20, 26, 0xE0, 27, 0x30);
        x.clocks(227);
        x.writes(28, 0, 29, 0, 30, 0, 31, 0, 32, 0, 33, 0);
        int[] due = {3, 5, 1, 5, 0};
        for (int object = 0; object < 5; object++) {
            CHECK.due("place(" + object + ")", x.place(object), due[object]);
        }
        x.sync();
        CHECK.due("motion waits for register 33", x.place(0), 3);
        x.write(33, 0);
        CHECK.due("a motion stays", x.place(0), 2);
    }

    /** "34 all motions become 0." */
    private static void motionsBecome0() {
        Beam x = Beam.written(23, 0x10, 24, 0x80, 25, 0x70, 26, 0xF0, 27, 0x10, 34, 255, 33, 255);
        for (int object = 0; object < 5; object++) {
            CHECK.due("place without motion", x.place(object), 0);
        }
        x.writes(23, 0x10, 33, 0);
        CHECK.due("a new motion", x.place(0), 159);
        Beam oneByOne = Check.inUse().writes(23, 0, 24, 0, 25, 0, 26, 0, 27, 0);
        CHECK.due("register 34 does as 0 in registers 23 .. 27, and no more",
                Look.ahead(Check.inUse().writes(34, 0)), Look.ahead(oneByOne));
    }

    /** "at clocks 0 .. 67: 3 for a player, 2 for the others" */
    private static void placesAtClocks0To67() {
        for (int clock = 0; clock <= 67; clock++) {
            for (int object = 0; object < 5; object++) {
                onlyThisPlace(clock, object, object < 2 ? 3 : 2);
            }
        }
        for (int object = 0; object < 5; object++) {
            onlyThisPlace(68, object, object < 2 ? 5 : 4);
        }
    }

    /** "if pixel x comes next, x + 5 modulo 160 for a player, x + 4 for the others" */
    private static void placesModulo160() {
        for (int x = 0; x < 160; x++) {
            for (int object = 0; object < 5; object++) {
                int due = x + (object < 2 ? 5 : 4);
                onlyThisPlace(68 + x, object, due > 159 ? due - 160 : due);
            }
        }
    }

    private static void placesOnALaterLine() {
        for (int clock = 0; clock < 228; clock++) {
            Beam x = new Beam();
            x.sync();
            x.clocks(2 * 228 + clock);
            x.writes(28, 0, 29, 0, 30, 0, 31, 0, 32, 0);
            for (int object = 0; object < 5; object++) {
                int late = object < 2 ? 1 : 0;
                int due = clock < 68 ? 2 + late : (clock - 68 + 4 + late) % 160;
                CHECK.due("place(" + object + ") at clock " + clock + " of line 3", x.place(object), due);
            }
        }
    }

    private static void onlyThisPlace(int clock, int object, int due) {
        Beam x = new Beam();
        x.clocks(clock);
        x.write(28 + object, clock);
        for (int other = 0; other < 5; other++) {
            CHECK.due("place(" + other + ") by register " + (28 + object) + " at clock " + clock,
                    x.place(other), other == object ? due : 0);
        }
    }

    /** "28 .. 32 (whatever is written)"; of 33 .. 35 no value is named. */
    private static void whateverIsWritten() {
        for (int register = 28; register < 36; register++) {
            String due = Look.ahead(Check.inUse().writes(register, 0));
            for (int v : new int[] {1, 2, 128, 255}) {
                CHECK.due("register " + register + " with " + v + " as with 0",
                        Look.ahead(Check.inUse().writes(register, v)).equals(due), true);
            }
        }
    }

    /** "its place is that of its player and 4 more (8 with copies 5, 16 with copies 7), modulo 160" */
    private static void locksEndAtThePlayer() {
        int[] further = {4, 4, 4, 4, 4, 8, 4, 16};
        for (int side = 0; side < 2; side++) {
            for (int copies = 0; copies < 8; copies++) {
                for (int place = 0; place < 160; place++) {
                    Beam x = Beam.written(17 + side, copies | 0xC8, 19 + side, 2).put(side, place);
                    x.write(21 + side, 2);
                    CHECK.due("missile's place in the lock", x.place(2 + side), 0);
                    CHECK.due("a locked missile", x.there(2 + side, 0), false);
                    x.write(21 + side, 0xFD);
                    int due = place + further[copies];
                    CHECK.due("place behind a lock to " + place + " with copies " + copies,
                            x.place(2 + side), due > 159 ? due - 160 : due);
                    CHECK.due("the other missile", x.place(3 - side), 0);
                    CHECK.due("the player", x.place(side), place);
                    CHECK.due("there again", x.there(2 + side, x.place(2 + side)), true);
                }
            }
        }
    }

    /** "when that ends (bit 1 becomes 0)" */
    private static void onlyTheEndOfALockMoves() {
        for (int side = 0; side < 2; side++) {
            Beam x = new Beam();
            int missile = 2 + side;
            int lock = 21 + side;
            x.clocks(100);
            x.writes(28 + side, 0, lock, 0);
            CHECK.due("unlocked before and behind", x.place(missile), 0);
            x.writes(lock, 1, lock, 0, lock, 253, lock, 0);
            CHECK.due("bits but for bit 1 lock nothing", x.place(missile), 0);
            x.writes(lock, 2, lock, 255, lock, 2);
            CHECK.due("locked before and behind", x.place(missile), 0);
            x.write(30 + side, 0);
            CHECK.due("placed in the lock", x.place(missile), 36);
            x.writes(25 + side, 0x30, 33, 0);
            CHECK.due("moved in the lock", x.place(missile), 33);
            x.writes(28 + side, 0, 17 + side, 5);
            CHECK.due("player and copies alone move no missile", x.place(missile), 33);
            x.write(lock, 0);
            CHECK.due("the lock ends", x.place(missile), 45);
            x.writes(28 + side, 0, 33, 0, lock, 0);
            CHECK.due("it has ended already", x.place(missile), 42);
        }
    }

    /** "35 no MEETINGS." */
    private static void noMeetings() {
        Beam x = Beam.written(9, 255, 10, 255, 13, 2);
        x.sync();
        CHECK.due("meetings", x.count(4), 3);
        x.write(35, 255);
        CHECK.due("no meetings", x.count(4), 0);
        CHECK.due("0 and 1 have not met", x.met(0, 1), false);
        x.sync();
        CHECK.due("meetings, again", x.count(4), 3);
        x = Check.inUse().writes(35, 0, 33, 0);
        int[] due = {33, 78, 39, 91, 3};
        for (int object = 0; object < 5; object++) {
            CHECK.due("register 35 leaves motions and places alone", x.place(object), due[object]);
        }
    }

    private static void onlyTheNamedBitsCount() {
        Beam x = Beam.written(5, 15, 8, 0xC8, 11, 254, 12, 254, 13, 253, 14, 254, 15, 247, 16, 247);
        x.writes(17, 0xC8, 18, 0xC8, 19, 253, 20, 253, 21, 253, 22, 253, 4, 254, 0, 3);
        x.sync();
        for (int object = 0; object < 6; object++) {
            CHECK.isWhere("bits without a meaning", x, object, "");
        }
        CHECK.due("not blank", x.pixel(80), 3);
        x.writes(9, 1, 10, 2, 13, 2, 19, 2, 20, 2);
        CHECK.isWhere("not reversed", x, 0, "7");
        CHECK.isWhere("not reversed", x, 1, "6");
        for (int object = 2; object < 5; object++) {
            CHECK.isWhere("one pixel wide", x, object, "0");
        }
        x.writes(23, 15, 33, 0);
        CHECK.due("the lower four bits are no motion", x.place(0), 0);
    }
}
