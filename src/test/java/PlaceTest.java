/** Promise 7: place, with registers 28 to 33 (the end of a lock: WriteTest). */
public final class PlaceTest {
    private static final Check CHECK = new Check();

    public static void main(String[] args) {
        placesAtEveryClock();
        motionAtEveryValue();
        eachHasItsOwnMotion();
        wrongCalls();
        CHECK.end();
    }

    private static void placesAtEveryClock() {
        for (int clock = 0; clock < 228; clock++) {
            for (int object = 0; object < 5; object++) {
                int late = object < 2 ? 1 : 0;
                int due = clock < 68 ? 2 + late : (clock - 68 + 4 + late) % 160;
                BeamDrawer y = new BeamDrawer();
                y.clocks(clock);
                y.write(28 + object, clock & 255);
                for (int other = 0; other < 5; other++) {
                    CHECK.due("place(" + other + ") by register " + (28 + object) + " at clock " + clock,
                            y.place(other), other == object ? due : 0);
                }
            }
        }
    }

    private static void motionAtEveryValue() {
        for (int v = 0; v < 256; v++) {
            for (int object = 0; object < 5; object++) {
                BeamDrawer x = Check.written(23 + object, v, 33, 0);
                int motion = (byte) v >> 4;
                CHECK.due("place by motion " + v, x.place(object), Math.floorMod(-motion, 160));
                x.write(33, 255);
                CHECK.due("place by motion twice " + v, x.place(object), Math.floorMod(-2 * motion, 160));
            }
        }
    }

    private static void eachHasItsOwnMotion() {
        BeamDrawer x = Check.written(23, 0x10, 24, 0xF0, 25, 0x20, 26, 0xE0, 27, 0x30);
        x.clocks(227);
        Check.write(x, 28, 0, 29, 0, 30, 0, 31, 0, 32, 0, 33, 0);
        int[] due = {3, 5, 1, 5, 0};
        for (int object = 0; object < 5; object++) {
            CHECK.due("place(" + object + ")", x.place(object), due[object]);
        }
        x.sync();
        CHECK.due("motion waits for register 33", x.place(0), 3);
    }

    private static void wrongCalls() {
        BeamDrawer x = Check.written(28, 0);
        for (int no : new int[] {-1, 5, 6, Integer.MIN_VALUE, Integer.MAX_VALUE}) {
            CHECK.refused(x, "place(" + no + ")", () -> x.place(no), Check.NO_SUCH);
        }
    }
}
