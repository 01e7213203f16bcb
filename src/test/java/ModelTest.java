import java.util.Random;

/** All promises: mixed runs of 512 calls, wrong ones among them, beside a second reading of the document. */
public final class ModelTest {
    private static final int RUNS = 60;
    private static final int CALLS = 512;

    private final Check check;
    private final Random random;
    private final int run;
    private final BeamDrawer beam = new BeamDrawer();
    private final SlowBeam slow = new SlowBeam();

    private ModelTest(Check check, int run) {
        this.check = check;
        this.run = run;
        this.random = new Random(run);
    }

    public static void main(String[] args) {
        Check check = new Check();
        for (int run = 0; run < RUNS; run++) {
            ModelTest test = new ModelTest(check, run);
            for (int call = 0; call < CALLS; call++) {
                test.oneCall();
            }
            test.lookAtAll();
        }
        check.end();
    }

    private int mostly(int bound) {
        return random.nextInt(40) == 0 ? (random.nextBoolean() ? -1 : bound) : random.nextInt(bound);
    }

    private int clocks() {
        switch (random.nextInt(20)) {
            case 0:
                return mostly(2001);
            case 1:
                return 228 * random.nextInt(9);
            default:
                return random.nextInt(120);
        }
    }

    private int value() {
        return random.nextInt(3) == 0 ? mostly(256) : random.nextInt(256) & random.nextInt(256);
    }

    private void oneCall() {
        switch (random.nextInt(16)) {
            case 0:
            case 1:
            case 2:
                int n = clocks();
                same("clocks(" + n + ")", () -> beam.clocks(n), () -> slow.clocks(n));
                break;
            case 3:
                same("sync()", () -> beam.sync(), () -> slow.sync());
                break;
            case 4:
                timerCall();
                break;
            case 5:
            case 6:
            case 7:
                question(random.nextInt(5));
                break;
            default:
                int register = mostly(36);
                int v = value();
                same("write(" + register + ", " + v + ")", () -> {
                    beam.write(register, v);
                    return 0;
                }, () -> {
                    slow.write(register, v);
                    return 0;
                });
                break;
        }
    }

    private void timerCall() {
        int interval = mostly(4);
        int v = random.nextInt(4) == 0 ? mostly(256) : random.nextInt(4);
        same("set(" + interval + ", " + v + ")", () -> beam.set(interval, v), () -> slow.set(interval, v));
    }

    private void question(int kind) {
        int a = mostly(6);
        int b = mostly(6);
        int x = mostly(160);
        switch (kind) {
            case 0:
                same("pixel(" + x + ")", () -> beam.pixel(x), () -> slow.pixel(x));
                break;
            case 1:
                same("met(" + a + ", " + b + ")", () -> beam.met(a, b) ? 1 : 0, () -> slow.met(a, b) ? 1 : 0);
                break;
            case 2:
                same("place(" + a + ")", () -> beam.place(a), () -> slow.place(a));
                break;
            case 3:
                same("there(" + a + ", " + x + ")", () -> beam.there(a, x) ? 1 : 0, () -> slow.there(a, x) ? 1 : 0);
                break;
            default:
                same("count(" + a + ")", () -> beam.count(a), () -> slow.count(a));
                break;
        }
    }

    private void lookAtAll() {
        for (int i = 0; i < 160; i++) {
            int x = i;
            same("pixel(" + x + ") at the end", () -> beam.pixel(x), () -> slow.pixel(x));
            for (int j = 0; j < 6; j++) {
                int object = j;
                same("there(" + object + ", " + x + ") at the end",
                        () -> beam.there(object, x) ? 1 : 0, () -> slow.there(object, x) ? 1 : 0);
            }
        }
        for (int i = 0; i < 6; i++) {
            int what = i;
            same("count(" + what + ") at the end", () -> beam.count(what), () -> slow.count(what));
            same("place(" + what + ") at the end", () -> beam.place(what), () -> slow.place(what));
        }
    }

    private void same(String what, Check.Call got, Check.Call due) {
        check.due("run " + run + ": " + what, Check.outcome(got), Check.outcome(due));
    }
}
