import java.util.HashSet;
import java.util.NoSuchElementException;
import java.util.Set;
import java.util.TreeSet;

/** A second reading of the document, for comparison: it lists the pixels of every object anew at each clock. */
final class SlowBeam implements Face {
    private static final int[][] MORE = {{}, {16}, {32}, {16, 32}, {64}, {}, {32, 64}, {}};
    private static final int[] WIDE = {1, 1, 1, 1, 1, 2, 1, 4};

    private final int[] written = new int[36];
    private final int[] place = new int[5];
    private final int[] motion = new int[5];
    private final int[] newShape = new int[2];
    private final int[] oldShape = new int[2];
    private boolean newBall;
    private boolean oldBall;
    private final int[] screen = new int[160];
    private final Set<String> meetings = new TreeSet<>();
    private long clocksInAll;
    private int pixels;
    private int value;
    private boolean rung;
    private int interval = 1024;
    private long sinceLess;

    @Override
    public void write(int register, int v) {
        if (register < 0 || register > 35) {
            throw new NoSuchElementException();
        }
        if (v < 0 || v > 255) {
            throw new IllegalArgumentException();
        }
        boolean wasLocked = (register == 21 || register == 22) && (written[register] & 2) == 2;
        written[register] = v;
        if (register == 9 || register == 10) {
            newShape[register - 9] = v;
            oldShape[10 - register] = newShape[10 - register];
        }
        if (register == 10) {
            oldBall = newBall;
        }
        if (register == 13) {
            newBall = (v & 2) == 2;
        }
        if (wasLocked && (v & 2) == 0) {
            int player = register - 21;
            int copies = written[17 + player] & 7;
            place[2 + player] = (place[player] + (copies == 5 ? 8 : copies == 7 ? 16 : 4)) % 160;
        }
        if (register >= 23 && register <= 27) {
            motion[register - 23] = (byte) v >> 4;
        }
        if (register >= 28 && register <= 32) {
            boolean player = register < 30;
            int x = clock() - 68;
            place[register - 28] = x < 0 ? (player ? 3 : 2) : (x + (player ? 5 : 4)) % 160;
        }
        for (int object = 0; object < 5; object++) {
            if (register == 33) {
                place[object] = (place[object] - motion[object] + 160) % 160;
            }
            if (register == 34) {
                motion[object] = 0;
            }
        }
        if (register == 35) {
            meetings.clear();
        }
    }

    private int clock() {
        return (int) (clocksInAll % 228);
    }

    @Override
    public int clocks(int n) {
        if (n < 0 || n > 2000) {
            throw new IllegalArgumentException();
        }
        for (int i = 0; i < n; i++) {
            oneClock();
        }
        return clock();
    }

    @Override
    public int sync() {
        int n = 0;
        do {
            oneClock();
            n++;
        } while (clock() != 0);
        return n;
    }

    private void oneClock() {
        if (clock() >= 68) {
            int x = clock() - 68;
            screen[x] = shown(x);
            pixels++;
            for (int a = 0; a < 6; a++) {
                for (int b = a + 1; b < 6; b++) {
                    if (there(a, x) && there(b, x)) {
                        meetings.add(a + " " + b);
                    }
                }
            }
        }
        clocksInAll++;
        sinceLess++;
        if (sinceLess == 3L * interval) {
            sinceLess = 0;
            if (value == 0) {
                rung = true;
                interval = 1;
            }
            value = (value + 255) % 256;
        }
    }

    private int shown(int x) {
        boolean score = (written[8] & 2) == 2;
        boolean field = there(5, x);
        int ofField = field && score ? written[x < 80 ? 2 : 3] : written[1];
        int colour = written[0];
        boolean front = (written[8] & 4) == 4;
        if (!front && (field || there(4, x))) {
            colour = ofField;
        }
        if (there(1, x) || there(3, x)) {
            colour = written[3];
        }
        if (there(0, x) || there(2, x)) {
            colour = written[2];
        }
        if (front && (field || there(4, x))) {
            colour = ofField;
        }
        return (written[4] & 1) == 1 ? 0 : colour;
    }

    @Override
    public int pixel(int x) {
        needs(x >= 0 && x < 160);
        return screen[x];
    }

    @Override
    public boolean met(int a, int b) {
        needs(a >= 0 && a < 6 && b >= 0 && b < 6 && a != b);
        return meetings.contains(Math.min(a, b) + " " + Math.max(a, b));
    }

    @Override
    public int place(int object) {
        needs(object >= 0 && object < 5);
        return place[object];
    }

    @Override
    public boolean there(int object, int x) {
        needs(object >= 0 && object < 6 && x >= 0 && x < 160);
        switch (object) {
            case 0:
            case 1:
                return player(object).contains(x);
            case 2:
            case 3:
                return missile(object - 2).contains(x);
            case 4:
                return ball().contains(x);
            default:
                return playfield(x);
        }
    }

    private Set<Integer> player(int side) {
        Set<Integer> all = new HashSet<>();
        int shape = (written[11 + side] & 1) == 1 ? oldShape[side] : newShape[side];
        int copies = written[17 + side] & 7;
        int at = place[side];
        for (int i = 0; i < 8; i++) {
            int bit = (written[15 + side] & 8) == 8 ? i : 7 - i;
            for (int j = 0; j < WIDE[copies]; j++, at++) {
                if ((shape & 1 << bit) != 0) {
                    withCopies(all, at, copies);
                }
            }
        }
        return all;
    }

    private Set<Integer> missile(int side) {
        Set<Integer> all = new HashSet<>();
        if ((written[19 + side] & 2) == 2 && (written[21 + side] & 2) == 0) {
            for (int i = 0; i < 1 << (written[17 + side] / 16 % 4); i++) {
                withCopies(all, place[2 + side] + i, written[17 + side] & 7);
            }
        }
        return all;
    }

    private Set<Integer> ball() {
        Set<Integer> all = new HashSet<>();
        if ((written[14] & 1) == 1 ? oldBall : newBall) {
            for (int i = 0; i < 1 << (written[8] / 16 % 4); i++) {
                withCopies(all, place[4] + i, 0);
            }
        }
        return all;
    }

    private static void withCopies(Set<Integer> all, int at, int copies) {
        all.add(at % 160);
        for (int further : MORE[copies]) {
            all.add((at + further) % 160);
        }
    }

    private boolean playfield(int x) {
        StringBuilder bits = new StringBuilder();
        for (int bit = 4; bit <= 7; bit++) {
            bits.append(written[5] >> bit & 1);
        }
        for (int bit = 7; bit >= 0; bit--) {
            bits.append(written[6] >> bit & 1);
        }
        for (int bit = 0; bit <= 7; bit++) {
            bits.append(written[7] >> bit & 1);
        }
        String left = bits.toString();
        String right = (written[8] & 1) == 1 ? bits.reverse().toString() : left;
        return (left + right).charAt(x / 4) == '1';
    }

    @Override
    public int set(int which, int v) {
        needs(which >= 0 && which < 4);
        if (v < 0 || v > 255) {
            throw new IllegalArgumentException();
        }
        int was = value;
        value = v;
        rung = false;
        interval = new int[] {1, 8, 64, 1024}[which];
        sinceLess = 0;
        return was;
    }

    @Override
    public int count(int what) {
        needs(what >= 0 && what < 6);
        return new int[] {clock(), (int) (clocksInAll / 228), value, rung ? 1 : 0, meetings.size(), pixels}[what];
    }

    @Override
    public SlowBeam again() {
        // Asking changes nothing here, and this one counts no calls.
        return this;
    }

    private static void needs(boolean such) {
        if (!such) {
            throw new NoSuchElementException();
        }
    }
}
