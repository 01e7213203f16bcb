/** Promise 1: what holds at first. */
public final class NewObjectTest {
    private static final Check CHECK = new Check();

    public static void main(String[] args) {
        allPixelsAre0();
        lineZeroAndClockZero();
        nothingIsThereNorHasMet();
        allThatIsWrittenIs0();
        placesAre0();
        theTimer();
        objectsShareNothing();
        CHECK.due("NONE", BeamDrawer.NONE, -1);
        CHECK.end();
    }

    /** "all pixels 0" */
    private static void allPixelsAre0() {
        Beam x = new Beam();
        for (int pixel = 0; pixel < 160; pixel++) {
            CHECK.due("pixel(" + pixel + ") of a new object", x.pixel(pixel), 0);
        }
        CHECK.due("pixels drawn", x.count(5), 0);
    }

    /** "At first it is line 0, and clock 0 comes next." */
    private static void lineZeroAndClockZero() {
        CHECK.due("the line", new Beam().count(1), 0);
        CHECK.due("the clock that comes next", new Beam().count(0), 0);
        CHECK.due("clocks(0)", new Beam().clocks(0), 0);
        CHECK.due("sync()", new Beam().sync(), 228);
    }

    private static void nothingIsThereNorHasMet() {
        Beam x = new Beam();
        for (int object = 0; object < 6; object++) {
            CHECK.isWhere("a new object", x, object, "");
            for (int other = 0; other < 6; other++) {
                CHECK.due("met", other != object && x.met(object, other), false);
            }
        }
        CHECK.due("meetings", x.count(4), 0);
    }

    /** "All that is written is 0 at first": a 0 changes nothing there, another value does. */
    private static void allThatIsWrittenIs0() {
        int[] others = {5, 5, 5, 5, 1, 16, 1, 1, 1, 128, 128, 1, 1, 2, 1, 8, 8, 1, 1, 2, 2, 2, 2, 16, 16, 16, 16, 16};
        // Bits that are seen once objects are there: register 8's and those of registers 17 and 18.
        int[][] more = {{8, 2}, {8, 4}, {8, 0x10}, {8, 0x20}, {17, 2}, {17, 4}, {17, 0x10}, {17, 0x20}, {18, 2}, {18, 4},
            {18, 0x10}, {18, 0x20}};
        for (int register = 0; register < others.length; register++) {
            is0AtFirst(register, others[register]);
        }
        for (int[] one : more) {
            is0AtFirst(one[0], one[1]);
        }
    }

    private static void is0AtFirst(int register, int other) {
        String fresh = usedWithout(register, new Beam());
        CHECK.due("register " + register + " is 0 at first",
                usedWithout(register, Beam.written(register, 0)).equals(fresh), true);
        CHECK.due("register " + register + " with " + other + " is the same as at first",
                usedWithout(register, Beam.written(register, other)).equals(fresh), false);
    }

    /** Writes every register that brings something out, but for one. */
    private static String usedWithout(int register, Beam x) {
        int[] writes = {0, 10, 1, 20, 2, 30, 3, 40, 5, 0x50, 6, 1, 19, 2, 20, 2, 13, 2, 9, 0xB0, 10, 0xC1};
        for (int i = 0; i < writes.length; i += 2) {
            if (writes[i] != register) {
                x.write(writes[i], writes[i + 1]);
            }
        }
        return Look.ahead(x);
    }

    /** Places are written, too: by registers 28 .. 33. */
    private static void placesAre0() {
        Beam x = new Beam();
        for (int object = 0; object < 5; object++) {
            CHECK.due("place(" + object + ")", x.place(object), 0);
        }
        x.write(33, 255);
        for (int object = 0; object < 5; object++) {
            CHECK.due("place(" + object + ") moved without motion", x.place(object), 0);
        }
    }

    /** "At first it is 0, not rung, interval 1024, and runs." */
    private static void theTimer() {
        Beam x = new Beam();
        CHECK.due("the value", x.count(2), 0);
        CHECK.due("rung", x.count(3), 0);
        x.clocks(2000);
        x.clocks(1071);
        CHECK.due("the value behind 3071 clocks", x.count(2), 0);
        CHECK.due("rung behind 3071 clocks", x.count(3), 0);
        x.clocks(1);
        CHECK.due("the value behind 3072 clocks", x.count(2), 255);
        CHECK.due("rung behind 3072 clocks", x.count(3), 1);
        x.clocks(3);
        CHECK.due("the value a cycle later", x.count(2), 254);
    }

    private static void objectsShareNothing() {
        String before = Look.ahead(new Beam());
        Beam first = Check.inUse();
        int place = first.place(0);
        int meetings = first.count(4);
        int pixel = first.pixel(70);
        Check.inUse().writes(9, 0, 28, 0, 35, 0, 0, 99).sync();
        CHECK.due("a second object is a new one", Look.ahead(new Beam()).equals(before), true);
        CHECK.due("the first one's place", first.place(0), place);
        CHECK.due("the first one's meetings", first.count(4), meetings);
        CHECK.due("the first one's pixel", first.pixel(70), pixel);
    }
}
