/** All that an object answers, now and later, as a text that can be compared. */
final class Look {
    /** Registers and values that bring out what is written and not shown. */
    private static final int[][] NEXT = {
        {}, {11, 1, 12, 1, 14, 1}, {11, 0, 12, 0, 14, 0}, {33, 0}, {21, 0, 22, 0},
        {4, 0, 13, 2, 19, 2, 20, 2, 21, 0, 22, 0}, {9, 0, 12, 1}, {10, 0, 11, 1, 14, 1}, {13, 0}};

    private Look() {
    }

    /** Where an object is, as ranges: "3-4 19". */
    static String where(Face x, int object) {
        Face asked = x.again();
        StringBuilder ranges = new StringBuilder();
        int start = -1;
        for (int at = 0; at <= 160; at++) {
            boolean there = at < 160 && asked.there(object, at);
            if (there && start < 0) {
                start = at;
            } else if (!there && start >= 0) {
                ranges.append(ranges.length() == 0 ? "" : " ").append(start);
                ranges.append(start == at - 1 ? "" : "-" + (at - 1));
                start = -1;
            }
        }
        return ranges.toString();
    }

    /** All answers that there are now. */
    static String now(Face x) {
        StringBuilder all = new StringBuilder();
        Face asked = x.again();
        for (int what = 0; what < 6; what++) {
            all.append("count ").append(asked.count(what)).append('\n');
        }
        for (int object = 0; object < 6; object++) {
            all.append("object ").append(object);
            all.append(", place ").append(object < 5 ? asked.place(object) : 0).append(", met ");
            for (int other = 0; other < 6; other++) {
                all.append(other != object && asked.met(object, other) ? '1' : '0');
            }
            all.append(", at ").append(where(x, object)).append('\n');
        }
        for (int pixel = 0; pixel < 160; pixel++) {
            all.append(' ').append(asked.pixel(pixel));
        }
        return all.append('\n').toString();
    }

    /** The answers now, and those that come of what cannot be seen yet. */
    static String ahead(Face x) {
        StringBuilder all = new StringBuilder();
        for (int[] writes : NEXT) {
            Face next = x.again();
            for (int i = 0; i < writes.length; i += 2) {
                next.write(writes[i], writes[i + 1]);
            }
            all.append(now(next));
            next.sync();
            next.sync();
            all.append(now(next));
        }
        return all.append(timer(x, 1, 50)).append(timer(x, 500, 14)).toString();
    }

    private static String timer(Face x, int clocks, int times) {
        StringBuilder all = new StringBuilder("timer");
        Face next = x.again();
        for (int i = 0; i < times; i++) {
            next.clocks(clocks);
            all.append(' ').append(next.count(2)).append('/').append(next.count(3));
        }
        return all.append('\n').toString();
    }
}
