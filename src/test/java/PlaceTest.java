/** Promise 7: place (how places are set, moved and reached behind a lock: WriteTest). */
public final class PlaceTest {
    private static final Check CHECK = new Check();

    public static void main(String[] args) {
        noSuchObject();
        thePlaceOfEach();
        everyPlace();
        whetherShownOrNot();
        CHECK.end();
    }

    /** "an object 0 .. 4. NoSuchElementException." The playfield, 5, has no place. */
    private static void noSuchObject() {
        for (int object : new int[] {-1, 5, 6}) {
            CHECK.refused("place(" + object + ")", x -> x.place(object), Check.NO_SUCH);
        }
        for (int object : Check.FAR_OUT) {
            CHECK.refused("place(" + object + ")", x -> x.place(object), Check.NO_SUCH);
        }
        for (int object = 0; object < 5; object++) {
            int of = object;
            CHECK.taken("place(" + object + ")", x -> x.place(of));
        }
    }

    private static void thePlaceOfEach() {
        int[] due = {40, 70, 42, 90, 157};
        Beam x = Check.inUse();
        for (int object = 0; object < 5; object++) {
            CHECK.due("place(" + object + ")", x.place(object), due[object]);
        }
    }

    private static void everyPlace() {
        for (int object = 0; object < 5; object++) {
            for (int place = 0; place < 160; place++) {
                CHECK.due("place(" + object + ")", new Beam().put(object, place).place(object), place);
            }
        }
    }

    private static void whetherShownOrNot() {
        Beam x = new Beam().put(2, 9).put(4, 159);
        CHECK.due("a missile that is not there", x.place(2), 9);
        CHECK.due("a ball that is not there", x.place(4), 159);
        x.writes(19, 2, 21, 2);
        CHECK.due("a locked missile", x.place(2), 9);
    }
}
