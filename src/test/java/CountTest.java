/** Promise 10: count. */
public final class CountTest {
    private static final Check CHECK = new Check();

    public static void main(String[] args) {
        ordinary();
        wrongCalls();
        CHECK.end();
    }

    private static void counts(String when, BeamDrawer x, int... due) {
        for (int what = 0; what < due.length; what++) {
            CHECK.due("count(" + what + ") " + when, x.count(what), due[what]);
        }
    }

    private static void ordinary() {
        BeamDrawer x = Check.written(9, 255, 10, 255);
        counts("at first", x, 0, 0, 0, 0, 0, 0);
        x.set(0, 20);
        x.clocks(68);
        counts("as pixel 0 comes next", x, 68, 0, 254, 1, 0, 0);
        x.clocks(1);
        counts("behind pixel 0", x, 69, 0, 253, 1, 1, 1);
        x.write(13, 2);
        x.clocks(158);
        counts("as pixel 159 comes next", x, 227, 0, (20 - 227 / 3) & 255, 1, 1, 159);
        x.set(3, 6);
        x.clocks(1);
        counts("as the next line begins", x, 0, 1, 6, 0, 1, 160);
        x.sync();
        counts("a line later", x, 0, 2, 6, 0, 3, 320);
        x.clocks(2000);
        counts("2000 clocks later", x, 176, 10, 6, 0, 3, 320 + 8 * 160 + 108);
        Check.write(x, 19, 2, 20, 2, 5, 255);
        x.sync();
        x.sync();
        CHECK.due("all meetings that there can be", x.count(4), 15);
    }

    private static void wrongCalls() {
        BeamDrawer x = Check.written(9, 255, 10, 255);
        x.clocks(333);
        for (int no : new int[] {-1, 6, Integer.MIN_VALUE, Integer.MAX_VALUE}) {
            CHECK.refused(x, "count(" + no + ")", () -> x.count(no), Check.NO_SUCH);
        }
    }
}
