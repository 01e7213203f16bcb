/** What a call is not said to change stays as it was. */
public final class StaysTest {
    private static final Check CHECK = new Check();

    public static void main(String[] args) {
        questionsChangeNothing();
        setChangesTheTimerAlone();
        writesLeaveTheBeamAlone();
        writesLeavePlacesAlone();
        clocksLeaveWhatIsWrittenAlone();
        theSameCallsGiveTheSameAnswers();
        CHECK.end();
    }

    private static Beam[] some() {
        return new Beam[] {new Beam(), Check.inUse()};
    }

    private static void questionsChangeNothing() {
        for (Beam x : some()) {
            Beam asked = x.again();
            for (int at = 0; at < 160; at++) {
                asked.pixel(at);
            }
            CHECK.due("behind questions about pixels", Look.ahead(asked), Look.ahead(x));
            asked = x.again();
            for (int object = 0; object < 6; object++) {
                for (int at = 0; at < 160; at += 7) {
                    asked.there(object, at);
                }
            }
            CHECK.due("behind questions who is there", Look.ahead(asked), Look.ahead(x));
            asked = x.again();
            for (int object = 0; object < 6; object++) {
                for (int other = 0; other < 6; other++) {
                    if (other != object) {
                        asked.met(object, other);
                    }
                }
                asked.count(object);
                asked.place(object % 5);
            }
            CHECK.due("behind all other questions", Look.ahead(asked), Look.ahead(x));
        }
    }

    /** All that is seen, but for the timer. */
    private static String butTheTimer(Beam x) {
        String[] lines = Look.now(x).split("\n");
        lines[2] = "";
        lines[3] = "";
        return String.join("\n", lines);
    }

    private static void setChangesTheTimerAlone() {
        for (Beam x : some()) {
            String before = butTheTimer(x);
            for (int interval = 0; interval < 4; interval++) {
                for (int v : new int[] {0, 1, 255}) {
                    Beam y = x.again();
                    y.set(interval, v);
                    CHECK.due("behind set(" + interval + ", " + v + ")", butTheTimer(y), before);
                    Beam z = x.again();
                    z.sync();
                    y.sync();
                    CHECK.due("a line behind set(" + interval + ", " + v + ")", butTheTimer(y), butTheTimer(z));
                }
            }
        }
    }

    /** Clock, line, timer and pixels. */
    private static String beam(Beam x) {
        StringBuilder all = new StringBuilder();
        Beam asked = x.again();
        for (int what = 0; what < 6; what++) {
            all.append(what == 4 ? "" : asked.count(what) + " ");
        }
        for (int at = 0; at < 160; at++) {
            all.append(asked.pixel(at)).append(' ');
        }
        return all.toString();
    }

    private static String meetings(Beam x) {
        StringBuilder all = new StringBuilder();
        Beam asked = x.again();
        all.append(asked.count(4));
        for (int a = 0; a < 6; a++) {
            for (int b = 0; b < 6; b++) {
                all.append(a != b && asked.met(a, b) ? " 1" : " 0");
            }
        }
        return all.toString();
    }

    private static void writesLeaveTheBeamAlone() {
        for (Beam x : some()) {
            String beam = beam(x);
            String meetings = meetings(x);
            for (int register = 0; register < 36; register++) {
                for (int v : new int[] {0, 1, 2, 128, 255}) {
                    Beam y = x.again().writes(register, v);
                    CHECK.due("behind write(" + register + ", " + v + ")", beam(y), beam);
                    if (register != 35) {
                        CHECK.due("meetings behind write(" + register + ", " + v + ")", meetings(y), meetings);
                    }
                }
            }
        }
    }

    /** But for registers 28 .. 33 and the end of a lock. */
    private static void writesLeavePlacesAlone() {
        int[] due = {40, 70, 42, 90, 157};
        for (int register = 0; register < 36; register++) {
            for (int v : new int[] {0, 1, 2, 128, 255}) {
                boolean lockEnds = register == 21 && (v & 2) == 0;
                if (lockEnds || register >= 28 && register <= 33) {
                    continue;
                }
                Beam x = Check.inUse().writes(register, v);
                for (int object = 0; object < 5; object++) {
                    CHECK.due("place(" + object + ") behind write(" + register + ", " + v + ")", x.place(object),
                            due[object]);
                }
            }
        }
    }

    private static String objects(Beam x) {
        StringBuilder all = new StringBuilder();
        for (int object = 0; object < 6; object++) {
            all.append(object < 5 ? x.again().place(object) : 0);
            all.append(" at ").append(Look.where(x, object)).append('\n');
        }
        return all.toString();
    }

    /** Places, shapes and motions wait for what is written, over any number of clocks and lines. */
    private static void clocksLeaveWhatIsWrittenAlone() {
        Beam x = Check.inUse();
        String objects = objects(x);
        String moved = objects(x.again().writes(33, 0));
        String old = objects(x.again().writes(11, 1, 12, 1, 14, 1));
        String unlocked = objects(x.again().writes(21, 0));
        for (int n : new int[] {1, 67, 68, 227, 228, 2000}) {
            Beam y = x.again();
            y.clocks(n);
            CHECK.due("objects behind clocks(" + n + ")", objects(y), objects);
            CHECK.due("moved behind clocks(" + n + ")", objects(y.again().writes(33, 0)), moved);
            CHECK.due("old ones behind clocks(" + n + ")", objects(y.again().writes(11, 1, 12, 1, 14, 1)), old);
            CHECK.due("unlocked behind clocks(" + n + ")", objects(y.again().writes(21, 0)), unlocked);
        }
        x.sync();
        CHECK.due("objects behind sync()", objects(x), objects);
    }

    private static void theSameCallsGiveTheSameAnswers() {
        for (Beam x : some()) {
            CHECK.due("the same calls, once more", Look.ahead(x.again()), Look.ahead(x));
        }
    }
}
