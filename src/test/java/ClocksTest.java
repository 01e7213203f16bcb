/** Promise 3: clocks. */
public final class ClocksTest {
    public static void main(String[] args) {
        Check check = new Check();
        BeamDrawer x = Check.written(0, 5);
        check.due("clocks(0)", x.clocks(0), 0);
        check.due("clocks(1)", x.clocks(1), 1);
        check.due("clocks(67)", x.clocks(67), 68);
        check.due("pixels drawn before clock 68", x.count(5), 0);
        check.due("clocks(1)", x.clocks(1), 69);
        check.due("pixels drawn behind clock 68", x.count(5), 1);
        check.due("clocks(158)", x.clocks(158), 227);
        check.due("pixel 158", x.pixel(158), 5);
        check.due("pixel 159 is not drawn yet", x.pixel(159), 0);
        check.due("line", x.count(1), 0);
        check.due("clocks(1)", x.clocks(1), 0);
        check.due("pixel 159", x.pixel(159), 5);
        check.due("line", x.count(1), 1);
        check.due("clocks(0) again", x.clocks(0), 0);
        check.due("clocks(2000)", x.clocks(2000), 2000 % 228);
        check.due("line", x.count(1), 1 + 2000 / 228);
        check.due("clocks(228)", x.clocks(228), 2000 % 228);
        longAndShortRunsAreTheSame(check);
        for (int n : new int[] {-1, 2001, Integer.MIN_VALUE, Integer.MAX_VALUE}) {
            check.refused(x, "clocks(" + n + ")", () -> x.clocks(n), Check.ILLEGAL);
        }
        check.end();
    }

    private static void longAndShortRunsAreTheSame(Check check) {
        for (int n : new int[] {227, 228, 229, 300, 455, 456, 457, 1999, 2000}) {
            BeamDrawer atOnce = start();
            BeamDrawer oneByOne = start();
            int answer = atOnce.clocks(n);
            for (int i = 0; i < n; i++) {
                oneByOne.clocks(1);
            }
            check.due("clocks(" + n + ")", answer, oneByOne.clocks(0));
            check.due("clocks(" + n + ") at once and one by one",
                    Check.look(atOnce).equals(Check.look(oneByOne)), true);
        }
    }

    private static BeamDrawer start() {
        BeamDrawer x = Check.written(0, 1, 1, 2, 2, 3, 3, 4, 6, 0x5A, 9, 0x3C, 10, 255, 13, 2, 8, 0x10);
        x.clocks(130);
        Check.write(x, 0, 9, 28, 0, 32, 0, 17, 3);
        x.set(1, 3);
        return x;
    }
}
