import java.util.Random;

/** All promises: mixed runs, wrong calls among them, beside a second reading of the document. */
public final class ModelTest {
    private static final int LONG_RUNS = 60;
    private static final int SHORT_RUNS = 60;
    // Short enough for questions about every pixel behind it.
    private static final int SHORT = 150;
    private static final Check CHECK = new Check();

    private final Random random;
    private final int run;
    private final Beam beam = new Beam();
    private final SlowBeam slow = new SlowBeam();

    private ModelTest(int run) {
        this.run = run;
        this.random = new Random(run);
    }

    public static void main(String[] args) {
        for (int run = 0; run < LONG_RUNS; run++) {
            new ModelTest(run).calls(Beam.MOST_CALLS);
        }
        for (int run = LONG_RUNS; run < LONG_RUNS + SHORT_RUNS; run++) {
            ModelTest test = new ModelTest(run);
            test.calls(SHORT);
            CHECK.due("run " + run + ", at its end", Look.now(test.beam), Look.now(test.slow));
        }
        CHECK.end();
    }

    private void calls(int number) {
        for (int call = 0; call < number; call++) {
            oneCall();
        }
    }

    private int mostly(int bound) {
        return random.nextInt(40) == 0 ? (random.nextBoolean() ? -1 : bound) : random.nextInt(bound);
    }

    private int someClocks() {
        switch (random.nextInt(20)) {
            case 0:
                return mostly(2001);
            case 1:
                return 228 * random.nextInt(9);
            default:
                return random.nextInt(120);
        }
    }

    private int someValue() {
        return random.nextInt(3) == 0 ? mostly(256) : random.nextInt(256) & random.nextInt(256);
    }

    private void oneCall() {
        switch (random.nextInt(16)) {
            case 0:
            case 1:
            case 2:
                int n = someClocks();
                same("clocks(" + n + ")", x -> x.clocks(n));
                break;
            case 3:
                same("sync()", x -> x.sync());
                break;
            case 4:
                int interval = mostly(4);
                int start = random.nextInt(4) == 0 ? mostly(256) : random.nextInt(4);
                same("set(" + interval + ", " + start + ")", x -> x.set(interval, start));
                break;
            case 5:
            case 6:
            case 7:
                question(random.nextInt(5));
                break;
            default:
                write(mostly(36), someValue());
                break;
        }
    }

    private void write(int register, int v) {
        same("write(" + register + ", " + v + ")", x -> {
            x.write(register, v);
            return 0;
        });
    }

    private void question(int kind) {
        int a = mostly(6);
        int b = mostly(6);
        int at = mostly(160);
        switch (kind) {
            case 0:
                same("pixel(" + at + ")", x -> x.pixel(at));
                break;
            case 1:
                same("met(" + a + ", " + b + ")", x -> x.met(a, b) ? 1 : 0);
                break;
            case 2:
                same("place(" + a + ")", x -> x.place(a));
                break;
            case 3:
                same("there(" + a + ", " + at + ")", x -> x.there(a, at) ? 1 : 0);
                break;
            default:
                same("count(" + a + ")", x -> x.count(a));
                break;
        }
    }

    private void same(String what, Check.Question call) {
        CHECK.due("run " + run + ": " + what, Check.outcome(beam, call), Check.outcome(slow, call));
    }
}
