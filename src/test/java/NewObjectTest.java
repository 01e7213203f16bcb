/** Promise 1: what holds at first. */
public final class NewObjectTest {
    public static void main(String[] args) {
        Check check = new Check();
        BeamDrawer x = new BeamDrawer();
        for (int what = 0; what < 6; what++) {
            check.due("count(" + what + ") of a new object", x.count(what), 0);
        }
        for (int pixel = 0; pixel < 160; pixel++) {
            check.due("pixel(" + pixel + ") of a new object", x.pixel(pixel), 0);
        }
        for (int object = 0; object < 6; object++) {
            check.isWhere("a new object", x, object, "");
            check.due("place", object < 5 ? x.place(object) : 0, 0);
            for (int other = 0; other < 6; other++) {
                check.due("met", other != object && x.met(object, other), false);
            }
        }
        theTimerRunsFromTheStart(check);
        objectsShareNothing(check);
        check.due("NONE", BeamDrawer.NONE, -1);
        check.end();
    }

    private static void theTimerRunsFromTheStart(Check check) {
        BeamDrawer x = new BeamDrawer();
        x.clocks(2000);
        x.clocks(1071);
        check.due("the value behind 3071 clocks", x.count(2), 0);
        check.due("rung behind 3071 clocks", x.count(3), 0);
        x.clocks(1);
        check.due("the value behind 3072 clocks", x.count(2), 255);
        check.due("rung behind 3072 clocks", x.count(3), 1);
        x.clocks(3);
        check.due("the value a cycle later", x.count(2), 254);
    }

    private static void objectsShareNothing(Check check) {
        String before = Check.look(new BeamDrawer());
        BeamDrawer first = Check.written(0, 7, 5, 255, 9, 255, 28, 0);
        first.set(0, 9);
        first.clocks(100);
        check.due("a second object is a new one", Check.look(new BeamDrawer()).equals(before), true);
    }
}
