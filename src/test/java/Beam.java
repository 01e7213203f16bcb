import java.util.ArrayList;
import java.util.List;
import java.util.NoSuchElementException;

/** A BeamDrawer that holds its test to the 512 calls that the document allows, and can be made again call by call. */
final class Beam implements Face {
    static final int MOST_CALLS = 512;

    private interface Call {
        long on(BeamDrawer drawer);
    }

    private final BeamDrawer drawer = new BeamDrawer();
    private final List<Call> calls = new ArrayList<>();

    static Beam written(int... registersAndValues) {
        return new Beam().writes(registersAndValues);
    }

    Beam writes(int... registersAndValues) {
        for (int i = 0; i < registersAndValues.length; i += 2) {
            write(registersAndValues[i], registersAndValues[i + 1]);
        }
        return this;
    }

    /** Runs the beam to a clock of this line or, if that is behind it, of the next one. */
    Beam runTo(int clock) {
        clocks(Math.floorMod(clock - count(0), 228));
        return this;
    }

    /** Brings an object 0 .. 4 to a place by its register. */
    Beam put(int object, int place) {
        runTo(68 + Math.floorMod(place - (object < 2 ? 5 : 4), 160));
        write(28 + object, 0);
        return this;
    }

    @Override
    public Beam again() {
        Beam other = new Beam();
        for (Call call : calls) {
            try {
                other.call(call);
            } catch (NoSuchElementException | IllegalArgumentException refused) {
                // It was refused here, too, and belongs to the run like any other call.
            }
        }
        return other;
    }

    int calls() {
        return calls.size();
    }

    private long call(Call call) {
        if (calls.size() == MOST_CALLS) {
            throw new AssertionError("the test's own fault: what a call beyond the 512th answers is free");
        }
        calls.add(call);
        return call.on(drawer);
    }

    @Override
    public void write(int register, int v) {
        call(drawer -> {
            drawer.write(register, v);
            return 0;
        });
    }

    @Override
    public int clocks(int n) {
        return (int) call(drawer -> drawer.clocks(n));
    }

    @Override
    public int sync() {
        return (int) call(drawer -> drawer.sync());
    }

    @Override
    public int pixel(int x) {
        return (int) call(drawer -> drawer.pixel(x));
    }

    @Override
    public boolean met(int a, int b) {
        return call(drawer -> drawer.met(a, b) ? 1 : 0) == 1;
    }

    @Override
    public int place(int object) {
        return (int) call(drawer -> drawer.place(object));
    }

    @Override
    public boolean there(int object, int x) {
        return call(drawer -> drawer.there(object, x) ? 1 : 0) == 1;
    }

    @Override
    public int set(int interval, int v) {
        return (int) call(drawer -> drawer.set(interval, v));
    }

    @Override
    public int count(int what) {
        return (int) call(drawer -> drawer.count(what));
    }
}
