import java.util.Arrays;
import java.util.NoSuchElementException;

/** A drawer of lines that races with a beam; see README.md. */
public final class BeamDrawer {
    public static final int NONE = -1;

    private static final int LINE_CLOCKS = 228;
    private static final int DARK_CLOCKS = 68;
    private static final int PIXELS = 160;
    private static final int HALF = 80;
    private static final int MOST_CLOCKS = 2000;
    private static final int MOST_VALUE = 255;

    private static final int REGISTERS = 36;
    private static final int BACKGROUND_COLOUR = 0;
    private static final int FIELD_COLOUR = 1;
    private static final int SIDE_0_COLOUR = 2;
    private static final int SIDE_1_COLOUR = 3;
    private static final int BLANK = 4;
    private static final int FIELD_LEFT = 5;
    private static final int FIELD_MIDDLE = 6;
    private static final int FIELD_RIGHT = 7;
    private static final int CONTROL = 8;
    private static final int SHAPE = 9;
    private static final int SHOWS_OLD_SHAPE = 11;
    private static final int BALL_SWITCH = 13;
    private static final int SHOWS_OLD_BALL = 14;
    private static final int REVERSED = 15;
    private static final int COPIES = 17;
    private static final int MISSILE_SWITCH = 19;
    private static final int LOCK = 21;
    private static final int MOTION = 23;
    private static final int PUT = 28;
    private static final int MOVE = 33;
    private static final int STOP = 34;
    private static final int FORGET = 35;

    private static final int MIRROR_BIT = 1;
    private static final int SCORE_BIT = 2;
    private static final int AHEAD_BIT = 4;
    private static final int SWITCH_BIT = 2;
    private static final int REVERSED_BIT = 8;

    private static final int OBJECTS = 6;
    private static final int MOVABLES = 5;
    private static final int MISSILE = 2;
    private static final int BALL = 4;
    private static final int FIELD = 5;
    // Players and missiles of one side share a colour: bits 0 and 2, bits 1 and 3.
    private static final int SIDE_0_MASK = 5;
    private static final int SIDE_1_MASK = 10;
    private static final int FIELD_MASK = 32;
    private static final int FIELD_OR_BALL_MASK = 48;

    // Bit k is 1 if a copy starts 16 * k pixels behind the place.
    private static final int[] COPY_STARTS = {1, 3, 5, 7, 17, 1, 21, 1};
    private static final int[] STRETCH = {0, 0, 0, 0, 0, 1, 0, 2};
    private static final int[] INTERVALS = {1, 8, 64, 1024};

    private final int[] registers = new int[REGISTERS];
    private final int[] oldShapes = new int[2];
    private final int[] places = new int[MOVABLES];
    private final int[] colours = new int[PIXELS];
    private final int[] meetings = new int[OBJECTS];
    private final Timer timer = new Timer();
    private int oldBall;
    private int clock;
    private int line;
    private int drawn;

    public BeamDrawer() {
    }

    public void write(int register, int v) throws NoSuchElementException, IllegalArgumentException {
        if (register < 0 || register >= REGISTERS) {
            throw new NoSuchElementException();
        }
        if (v < 0 || v > MOST_VALUE) {
            throw new IllegalArgumentException();
        }
        if (register >= PUT) {
            strobe(register);
        } else {
            store(register, v);
        }
    }

    public int clocks(int n) throws IllegalArgumentException {
        if (n < 0 || n > MOST_CLOCKS) {
            throw new IllegalArgumentException();
        }
        run(n);
        return clock;
    }

    public int sync() {
        int n = LINE_CLOCKS - clock;
        run(n);
        return n;
    }

    public int pixel(int x) throws NoSuchElementException {
        if (!isPixel(x)) {
            throw new NoSuchElementException();
        }
        return colours[x];
    }

    public boolean met(int a, int b) throws NoSuchElementException {
        if (!isObject(a) || !isObject(b) || a == b) {
            throw new NoSuchElementException();
        }
        return (meetings[a] >> b & 1) != 0;
    }

    public int place(int object) throws NoSuchElementException {
        if (object < 0 || object >= MOVABLES) {
            throw new NoSuchElementException();
        }
        return places[object];
    }

    public boolean there(int object, int x) throws NoSuchElementException {
        if (!isObject(object) || !isPixel(x)) {
            throw new NoSuchElementException();
        }
        return isAt(object, x);
    }

    public int set(int interval, int v) throws NoSuchElementException, IllegalArgumentException {
        if (interval < 0 || interval >= INTERVALS.length) {
            throw new NoSuchElementException();
        }
        if (v < 0 || v > MOST_VALUE) {
            throw new IllegalArgumentException();
        }
        int was = timer.value;
        timer.start(INTERVALS[interval], v);
        return was;
    }

    public int count(int what) throws NoSuchElementException {
        switch (what) {
            case 0:
                return clock;
            case 1:
                return line;
            case 2:
                return timer.value;
            case 3:
                return timer.rung ? 1 : 0;
            case 4:
                return countMeetings();
            case 5:
                return drawn;
            default:
                throw new NoSuchElementException();
        }
    }

    private static boolean isPixel(int x) {
        return x >= 0 && x < PIXELS;
    }

    private static boolean isObject(int object) {
        return object >= 0 && object < OBJECTS;
    }

    private boolean hasBit(int register, int bit) {
        return (registers[register] & bit) != 0;
    }

    // What is written.

    private void store(int register, int v) {
        switch (register) {
            case SHAPE:
                oldShapes[1] = registers[SHAPE + 1];
                break;
            case SHAPE + 1:
                oldShapes[0] = registers[SHAPE];
                oldBall = registers[BALL_SWITCH];
                break;
            case LOCK:
            case LOCK + 1:
                if (hasBit(register, SWITCH_BIT) && (v & SWITCH_BIT) == 0) {
                    unlock(register - LOCK);
                }
                break;
            default:
                break;
        }
        registers[register] = v;
    }

    private void unlock(int side) {
        int middle = 4 << STRETCH[copiesOf(side)];
        places[MISSILE + side] = (places[side] + middle) % PIXELS;
    }

    private void strobe(int register) {
        switch (register) {
            case MOVE:
                moveAll();
                break;
            case STOP:
                Arrays.fill(registers, MOTION, MOTION + MOVABLES, 0);
                break;
            case FORGET:
                Arrays.fill(meetings, 0);
                break;
            default:
                put(register - PUT);
                break;
        }
    }

    private void put(int object) {
        int late = object < MISSILE ? 1 : 0;
        if (clock < DARK_CLOCKS) {
            places[object] = 2 + late;
        } else {
            places[object] = (clock - DARK_CLOCKS + 4 + late) % PIXELS;
        }
    }

    private void moveAll() {
        for (int object = 0; object < MOVABLES; object++) {
            places[object] = Math.floorMod(places[object] - motionOf(object), PIXELS);
        }
    }

    private int motionOf(int object) {
        int upper = registers[MOTION + object] >> 4;
        return upper < 8 ? upper : upper - 16;
    }

    // The beam.

    private void run(int n) {
        for (int i = 0; i < n; i++) {
            if (clock >= DARK_CLOCKS) {
                // Nothing is written while the beam runs: behind a whole line it draws the same again.
                if (i < LINE_CLOCKS) {
                    draw(clock - DARK_CLOCKS);
                }
                drawn++;
            }
            timer.tick();
            stepClock();
        }
    }

    private void stepClock() {
        clock++;
        if (clock == LINE_CLOCKS) {
            clock = 0;
            line++;
        }
    }

    private void draw(int x) {
        int here = 0;
        for (int object = 0; object < OBJECTS; object++) {
            if (isAt(object, x)) {
                here |= 1 << object;
            }
        }
        colours[x] = colourAt(x, here);
        keepMeetings(here);
    }

    private int colourAt(int x, int here) {
        if (hasBit(BLANK, 1)) {
            return 0;
        }
        boolean fieldOrBall = (here & FIELD_OR_BALL_MASK) != 0;
        if (fieldOrBall && hasBit(CONTROL, AHEAD_BIT)) {
            return fieldColour(x, here);
        }
        if ((here & SIDE_0_MASK) != 0) {
            return registers[SIDE_0_COLOUR];
        }
        if ((here & SIDE_1_MASK) != 0) {
            return registers[SIDE_1_COLOUR];
        }
        return fieldOrBall ? fieldColour(x, here) : registers[BACKGROUND_COLOUR];
    }

    private int fieldColour(int x, int here) {
        if ((here & FIELD_MASK) == 0 || !hasBit(CONTROL, SCORE_BIT)) {
            return registers[FIELD_COLOUR];
        }
        return registers[x < HALF ? SIDE_0_COLOUR : SIDE_1_COLOUR];
    }

    private void keepMeetings(int here) {
        for (int object = 0; object < OBJECTS; object++) {
            int self = 1 << object;
            if ((here & self) != 0) {
                meetings[object] |= here & ~self;
            }
        }
    }

    private int countMeetings() {
        int ends = 0;
        for (int others : meetings) {
            ends += Integer.bitCount(others);
        }
        // Each meeting is kept with both who met.
        return ends / 2;
    }

    // What is where.

    private boolean isAt(int object, int x) {
        if (object < MISSILE) {
            return isPlayerAt(object, x);
        }
        if (object < BALL) {
            return isMissileAt(object - MISSILE, x);
        }
        return object < FIELD ? isBallAt(x) : isFieldAt(x);
    }

    private boolean isPlayerAt(int side, int x) {
        int shape = hasBit(SHOWS_OLD_SHAPE + side, 1) ? oldShapes[side] : registers[SHAPE + side];
        int copies = copiesOf(side);
        int fromLeft = behindCopy(copies, behindPlace(side, x)) >> STRETCH[copies];
        if (fromLeft > 7) {
            return false;
        }
        int bit = hasBit(REVERSED + side, REVERSED_BIT) ? fromLeft : 7 - fromLeft;
        return (shape >> bit & 1) != 0;
    }

    private boolean isMissileAt(int side, int x) {
        if (!hasBit(MISSILE_SWITCH + side, SWITCH_BIT) || hasBit(LOCK + side, SWITCH_BIT)) {
            return false;
        }
        return behindCopy(copiesOf(side), behindPlace(MISSILE + side, x)) < widthIn(COPIES + side);
    }

    private boolean isBallAt(int x) {
        int shown = hasBit(SHOWS_OLD_BALL, 1) ? oldBall : registers[BALL_SWITCH];
        return (shown & SWITCH_BIT) != 0 && behindPlace(BALL, x) < widthIn(CONTROL);
    }

    private boolean isFieldAt(int x) {
        if (x < HALF) {
            return hasFieldBit(x / 4);
        }
        int fromMiddle = (x - HALF) / 4;
        return hasFieldBit(hasBit(CONTROL, MIRROR_BIT) ? 19 - fromMiddle : fromMiddle);
    }

    private boolean hasFieldBit(int fromLeft) {
        if (fromLeft < 4) {
            return hasBit(FIELD_LEFT, 16 << fromLeft);
        }
        if (fromLeft < 12) {
            return hasBit(FIELD_MIDDLE, 128 >> (fromLeft - 4));
        }
        return hasBit(FIELD_RIGHT, 1 << (fromLeft - 12));
    }

    private int copiesOf(int side) {
        return registers[COPIES + side] & 7;
    }

    private int widthIn(int register) {
        return 1 << (registers[register] >> 4 & 3);
    }

    private int behindPlace(int object, int x) {
        return Math.floorMod(x - places[object], PIXELS);
    }

    /** How far behind the start of its copy a pixel is; PIXELS, which no copy reaches, if there is none. */
    private static int behindCopy(int copies, int behind) {
        // A stretched player may be wider than the 16 pixels from one start to the next.
        if (STRETCH[copies] > 0) {
            return behind;
        }
        boolean starts = (COPY_STARTS[copies] >> (behind / 16) & 1) != 0;
        return starts ? behind % 16 : PIXELS;
    }

    private static final class Timer {
        private static final int CYCLE_CLOCKS = 3;

        private int value;
        private int interval = 1024;
        private int clocksLeft = 1024 * CYCLE_CLOCKS;
        private boolean rung;

        private void start(int cycles, int v) {
            value = v;
            rung = false;
            interval = cycles;
            clocksLeft = cycles * CYCLE_CLOCKS;
        }

        private void tick() {
            clocksLeft--;
            if (clocksLeft > 0) {
                return;
            }
            value--;
            if (value < 0) {
                value = MOST_VALUE;
                rung = true;
                interval = 1;
            }
            clocksLeft = interval * CYCLE_CLOCKS;
        }
    }
}
