import java.util.ArrayList;
import java.util.List;
import java.util.function.Supplier;
import java.util.function.ToIntFunction;

/**
 * Tests of calls that answer an error or NONE, and change nothing: of two
 * objects that were made alike one is called, and both are asked for all that
 * they tell, now and behind undo, restore and loadAll. Each question is put to
 * new objects, so that none is used for more than 512 calls.
 */
final class Unchanged {
    private static final int RESTORED = 5;
    private static final int LOADED = 6;
    private static final int SHOTS = 20;

    private Unchanged() {
    }

    static void by(Due due, String call, Supplier<CaughtPellets> making, ToIntFunction<CaughtPellets> asked, int want) {
        CaughtPellets first = making.get();
        due.is(call, asked.applyAsInt(first), want);
        int parts = 1 + (first.count(7) + SHOTS - 1) / SHOTS;
        for (int way = 0; way <= LOADED; way++) {
            for (int part = 0; part < parts; part++) {
                CaughtPellets called = making.get();
                asked.applyAsInt(called);
                due.same(call + " changes nothing, way " + way + ", part " + part,
                    told(called, way, part), told(making.get(), way, part));
            }
        }
    }

    private static List<Integer> told(CaughtPellets x, int way, int part) {
        List<Integer> told = new ArrayList<>();
        if (way == LOADED) {
            told.add(x.loadAll());
        } else if (way == RESTORED) {
            told.add(x.restore());
        } else {
            for (int i = 0; i < way; i++) {
                told.add(x.undo());
            }
        }
        told.add(x.count(19));
        told.add(x.count(20));
        told.addAll(part == 0 ? Told.stateWithoutShots(x) : Told.shots(x, (part - 1) * SHOTS, part * SHOTS - 1));
        return told;
    }
}
