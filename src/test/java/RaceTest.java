import java.util.Arrays;

/** "what is written between two clocks is seen from the next one on": each register, written before each pixel. */
public final class RaceTest {
    private static final Check CHECK = new Check();
    /** What is written, register by register: in one of the starts, at least, a line looks different behind it. */
    private static final int[] VALUES = {11, 21, 31, 41, 1, 0xA0, 0xA5, 0x3C, 0x37, 0x5A, 0x95, 1, 1, 0, 1, 8, 8, 0x35,
        0x23, 0, 0, 0, 2, 0x30, 0x30, 0x30, 0x30, 0x30, 0, 0, 0, 0, 0, 0, 0, 0};

    public static void main(String[] args) {
        for (int register = 0; register < 36; register++) {
            boolean seen = false;
            for (int side = 0; side < 2; side++) {
                for (int pixel = 0; pixel < 160; pixel++) {
                    seen |= race(side, register, pixel);
                }
            }
            boolean due = register < 23 || register >= 28 && register < 34;
            CHECK.due("register " + register + " is seen on the line", seen, due);
        }
        CHECK.end();
    }

    /** Clock 0 comes next; this player's old shape is not its new one, and its missile is locked. */
    private static Beam start(int side) {
        Beam x = Beam.written(0, 10, 1, 20, 2, 30, 3, 40, 5, 0x50, 6, 0x5A, 7, 0xC3, 8, 0x20);
        x.writes(9 + side, 0xB1, 10 - side, 0x6E, 9 + side, 0x1D, 13, 2);
        x.writes(17, 0x21, 18, 0x16, 19, 2, 20, 2, 21 + side, 2, 23, 0x70, 24, 0x80, 25, 0x30, 26, 0xF0, 27, 0xA0);
        x.put(0, 40).put(2, 20).put(1, 70).put(3, 90).put(4, 84);
        x.sync();
        x.sync();
        return x;
    }

    /** Whether the lines before and behind what is written differ. */
    private static boolean race(int side, int register, int pixel) {
        Beam x = start(side);
        int[] before = line(x);
        int[] wereThere = whoIsThere(x);
        x.write(35, 0);
        x.clocks(68 + pixel);
        x.write(register, VALUES[register]);
        int[] areThere = whoIsThere(x);
        x.sync();
        int[] raced = line(x);
        int meetings = meetings(x);
        x.sync();
        int[] behind = line(x);
        String what = "start " + side + ", register " + register + " written before pixel " + pixel;
        for (int at = 0; at < 160; at++) {
            CHECK.due(what + ": pixel(" + at + ")", raced[at], at < pixel ? before[at] : behind[at]);
        }
        int due = register == 35 ? 0 : met(wereThere, 0, pixel);
        CHECK.due(what + ": meetings as bits", meetings, due | met(areThere, pixel, 160));
        return !Arrays.equals(before, behind);
    }

    private static int[] line(Beam x) {
        Beam asked = x.again();
        int[] line = new int[160];
        for (int at = 0; at < 160; at++) {
            line[at] = asked.pixel(at);
        }
        return line;
    }

    /** For each pixel the objects that are there, as bits. */
    private static int[] whoIsThere(Beam x) {
        int[] objects = new int[160];
        for (int object = 0; object < 6; object++) {
            Beam asked = x.again();
            for (int at = 0; at < 160; at++) {
                objects[at] |= asked.there(object, at) ? 1 << object : 0;
            }
        }
        return objects;
    }

    private static int meetings(Beam x) {
        Beam asked = x.again();
        int bits = 0;
        for (int a = 0; a < 6; a++) {
            for (int b = a + 1; b < 6; b++) {
                bits |= asked.met(a, b) ? 1 << (6 * a + b - 6) : 0;
            }
        }
        return bits;
    }

    private static int met(int[] objects, int from, int to) {
        int bits = 0;
        for (int at = from; at < to; at++) {
            for (int a = 0; a < 6; a++) {
                for (int b = a + 1; b < 6; b++) {
                    boolean both = (objects[at] >> a & objects[at] >> b & 1) != 0;
                    bits |= both ? 1 << (6 * a + b - 6) : 0;
                }
            }
        }
        return bits;
    }
}
