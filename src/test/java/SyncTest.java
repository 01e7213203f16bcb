/** Promise 4: sync. */
public final class SyncTest {
    public static void main(String[] args) {
        Check check = new Check();
        BeamDrawer x = Check.written(0, 5);
        check.due("sync() at clock 0", x.sync(), 228);
        check.due("the clock", x.count(0), 0);
        check.due("the line", x.count(1), 1);
        check.due("pixels drawn", x.count(5), 160);
        check.due("the first pixel", x.pixel(0), 5);
        check.due("the last pixel", x.pixel(159), 5);
        x.clocks(1);
        check.due("sync() at clock 1", x.sync(), 227);
        x.clocks(227);
        x.write(0, 6);
        check.due("sync() at clock 227", x.sync(), 1);
        check.due("the last pixel", x.pixel(159), 6);
        check.due("the pixel before it", x.pixel(158), 5);
        check.due("the line", x.count(1), 3);
        check.due("the clock", x.count(0), 0);
        x.set(0, 200);
        x.clocks(100);
        check.due("sync() at clock 100", x.sync(), 128);
        check.due("the timer has run 76 cycles", x.count(2), 124);
        check.due("pixels drawn", x.count(5), 640);
        check.end();
    }
}
