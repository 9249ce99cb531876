import java.util.function.Supplier;
import java.util.function.ToIntFunction;

/**
 * "Where several errors can apply, the order of the @return line is the order
 * of the checks", and NONE only if no error applies: each pair that can apply
 * at once. And each NONE. None of these calls changes anything.
 */
public final class OrderTest {
    private static final int UNKNOWN = -1;
    private static final int BAD_VALUE = -2;
    private static final int FULL = -3;
    private static final int NOT_POSSIBLE = -4;
    private static final int NONE = -5;

    private final Due due = new Due();

    private OrderTest() {
    }

    public static void main(String[] args) {
        OrderTest test = new OrderTest();
        test.firstOfAllErrors();
        test.errorsAheadOfNone();
        test.errorsOfTheBlock();
        test.errorsOfCord();
        test.errorsOfSetAndSwing();
        test.errorsOfTheRow();
        test.errorsOfFire();
        test.errorsOfShots();
        test.errorsOfStandards();
        test.noneIsNoError();
        test.noneOfSeries();
        test.due.end();
    }

    private void refused(String call, Supplier<CaughtPellets> making, ToIntFunction<CaughtPellets> asked, int want) {
        Unchanged.by(due, call, making, asked, want);
    }

    private void firstOfAllErrors() {
        due.of("Where several errors can apply, the order of the @return line is the order of the checks.");
        refused("block", Scenes::richSwinging, x -> x.block(999), BAD_VALUE);
        refused("cord", Scenes::richSwinging, x -> x.cord(4, 499), UNKNOWN);
        refused("load", Scenes::fullRow, x -> x.load(9, 49), BAD_VALUE);
        refused("loadAll", () -> withText(Scenes.fullRow(), "5@50x9;5@50x"), x -> x.loadAll(), -112);
        refused("fire", Scenes::fullOfShots, x -> x.fire(21, 501), BAD_VALUE);
        refused("keepStandard", Scenes::fullOfStandards, x -> x.keepStandard(49, 101), BAD_VALUE);
        refused("shot", Scenes::fullOfShots, x -> x.shot(60, 8), UNKNOWN);
        refused("standard", Scenes::fullOfStandards, x -> x.standard(5, 4), UNKNOWN);
    }

    private void errorsAheadOfNone() {
        due.of("NONE is no error; it is returned only if no error applies.");
        refused("cord, it swings and is so already", Scenes::richSwinging, x -> x.cord(0, 2000), NOT_POSSIBLE);
        refused("swing at rest", Scenes::fresh, x -> x.swing(0), BAD_VALUE);
        refused("unload, none waits", Scenes::fresh, x -> x.unload(9), BAD_VALUE);
        refused("fire, none waits", Scenes::fresh, x -> x.fire(0, 0), BAD_VALUE);
        refused("strike, it does not count and is not struck", Scenes::rich, x -> x.strike(4, false), NOT_POSSIBLE);
        refused("waiting, none waits", Scenes::fresh, x -> x.waiting(-1, true), BAD_VALUE);
        refused("series without shots", Scenes::fresh, x -> x.series(7), BAD_VALUE);
    }

    private void errorsOfTheBlock() {
        due.of("BAD_VALUE; NOT_POSSIBLE if the block swings.");
        refused("block(999), it swings", Scenes::richSwinging, x -> x.block(999), BAD_VALUE);
        refused("block(9001), it swings", Scenes::richSwinging, x -> x.block(9001), BAD_VALUE);
        refused("block(1000), it swings", Scenes::richSwinging, x -> x.block(1000), NOT_POSSIBLE);
        refused("block(5000), the same, it swings", Scenes::richSwinging, x -> x.block(5000), NOT_POSSIBLE);
        refused("block(9000), it swings", Scenes::richSwinging, x -> x.block(9000), NOT_POSSIBLE);
        refused("block(4000), it swings by 1", () -> Scenes.atHeight(1), x -> x.block(4000), NOT_POSSIBLE);
        refused("block(4000), it swings by 300000", Scenes::atGreatestHeight, x -> x.block(4000), NOT_POSSIBLE);
        due.of("NOT_POSSIBLE if the block swings; NONE if it holds no pellet.");
        refused("digOut(), it swings", Scenes::richSwinging, x -> x.digOut(), NOT_POSSIBLE);
        refused("digOut(), it swings by 1", () -> Scenes.atHeight(1), x -> x.digOut(), NOT_POSSIBLE);
        refused("digOut() of no pellet", Scenes::fresh, x -> x.digOut(), NONE);
        refused("digOut() again", OrderTest::dugOut, x -> x.digOut(), NONE);
        refused("digOut() of another block", OrderTest::withAnotherBlock, x -> x.digOut(), NONE);
    }

    private static CaughtPellets dugOut() {
        CaughtPellets x = Scenes.rich();
        x.digOut();
        return x;
    }

    private static CaughtPellets withAnotherBlock() {
        CaughtPellets x = Scenes.rich();
        x.block(9000);
        return x;
    }

    private void errorsOfCord() {
        due.of("UNKNOWN; BAD_VALUE; NOT_POSSIBLE if the block swings; NONE if it is so already.");
        int[] unknown = {-1, 4};
        for (int cord : unknown) {
            refused("unknown, bad, it swings", Scenes::richSwinging, x -> x.cord(cord, 499), UNKNOWN);
            refused("unknown, bad, it swings", Scenes::richSwinging, x -> x.cord(cord, 3001), UNKNOWN);
            refused("unknown, bad", Scenes::rich, x -> x.cord(cord, 499), UNKNOWN);
            refused("unknown, it swings", Scenes::richSwinging, x -> x.cord(cord, 2001), UNKNOWN);
            refused("unknown, as the others already", Scenes::rich, x -> x.cord(cord, 2000), UNKNOWN);
        }
        for (int i = 0; i < 4; i++) {
            int cord = i;
            int already = cord == 2 ? 2003 : 2000;
            refused("bad, it swings", Scenes::richSwinging, x -> x.cord(cord, 499), BAD_VALUE);
            refused("bad, it swings", Scenes::richSwinging, x -> x.cord(cord, 3001), BAD_VALUE);
            refused("it swings", Scenes::richSwinging, x -> x.cord(cord, 2001), NOT_POSSIBLE);
            refused("it swings by 1", () -> Scenes.atHeight(1), x -> x.cord(cord, 2001), NOT_POSSIBLE);
            refused("it swings, so already", Scenes::richSwinging, x -> x.cord(cord, already), NOT_POSSIBLE);
            refused("so already", Scenes::rich, x -> x.cord(cord, already), NONE);
        }
    }

    private void errorsOfSetAndSwing() {
        due.of("Returns the previous one; BAD_VALUE (which or value); NONE if it is so already.");
        int[] now = {5, 30, 10, 10};
        for (int i = 0; i < 4; i++) {
            int which = i;
            refused("so already", Scenes::rich, x -> x.set(which, now[which]), NONE);
            refused("so already, it swings", Scenes::richSwinging, x -> x.set(which, now[which]), NONE);
        }
        refused("which and value are bad", Scenes::rich, x -> x.set(4, -1), BAD_VALUE);
        refused("which and value are bad", Scenes::rich, x -> x.set(-1, 501), BAD_VALUE);
        refused("which is bad, the value is one of others", Scenes::rich, x -> x.set(4, 10), BAD_VALUE);
        due.of("the height then; BAD_VALUE; NONE if it is at rest.");
        refused("swing(0) at rest", Scenes::rich, x -> x.swing(0), BAD_VALUE);
        refused("swing(501) at rest", Scenes::rich, x -> x.swing(501), BAD_VALUE);
        refused("swing(-1) at rest", Scenes::rich, x -> x.swing(-1), BAD_VALUE);
        refused("swing(1) at rest", Scenes::rich, x -> x.swing(1), NONE);
        refused("swing(500) at rest", Scenes::rich, x -> x.swing(500), NONE);
        refused("swing(1) of a new object", Scenes::fresh, x -> x.swing(1), NONE);
        due.of("the height that it had; NONE if it is at rest.");
        refused("stop() at rest", Scenes::rich, x -> x.stop(), NONE);
        refused("stop() of a new object", Scenes::fresh, x -> x.stop(), NONE);
    }

    private void errorsOfTheRow() {
        due.of("BAD_VALUE; FULL if 20 wait.");
        refused("load(9, 400), full", Scenes::fullRow, x -> x.load(9, 400), BAD_VALUE);
        refused("load(2001, 400), full", Scenes::fullRow, x -> x.load(2001, 400), BAD_VALUE);
        refused("load(80, 49), full", Scenes::fullRow, x -> x.load(80, 49), BAD_VALUE);
        refused("load(80, 901), full", Scenes::fullRow, x -> x.load(80, 901), BAD_VALUE);
        refused("load(9, 901)", Scenes::rich, x -> x.load(9, 901), BAD_VALUE);
        refused("load(10, 50), full", Scenes::fullRow, x -> x.load(10, 50), FULL);
        refused("load(2000, 900), full", Scenes::fullRow, x -> x.load(2000, 900), FULL);
        due.of("-100 minus the fault of the text if it has one (which is an error); FULL");
        refused("no text, full", () -> withText(Scenes.fullRow(), ""), x -> x.loadAll(), -100);
        refused("a fault at the end, full", () -> withText(Scenes.fullRow(), "5@50;"), x -> x.loadAll(), -105);
        refused("a fault behind 21 shots", () -> withText(Scenes.rich(), "5@50x9;5@50x9;5@50x3y"),
            x -> x.loadAll(), -120);
        refused("no fault, full", () -> withText(Scenes.fullRow(), "5@50"), x -> x.loadAll(), FULL);
        refused("no fault, 18 behind 3", () -> withText(Scenes.rich(), "5@50x9;5@50x9"), x -> x.loadAll(), FULL);
        refused("no fault, 21", () -> withText(Scenes.fresh(), "5@50x9;5@50x9;5@50x3"), x -> x.loadAll(), FULL);
        due.of("how many are unloaded; BAD_VALUE; NONE if there is none.");
        refused("unload(9) of none", Scenes::fresh, x -> x.unload(9), BAD_VALUE);
        refused("unload(2001) of none", Scenes::fresh, x -> x.unload(2001), BAD_VALUE);
        refused("unload(10) of none", Scenes::fresh, x -> x.unload(10), NONE);
        refused("unload(2000) of none", Scenes::fresh, x -> x.unload(2000), NONE);
        refused("unload(69), all are heavier", Scenes::rich, x -> x.unload(69), NONE);
        refused("unload(10), all are heavier", Scenes::fullRow, x -> x.unload(10), NONE);
    }

    private static CaughtPellets withText(CaughtPellets x, String text) {
        Told.write(x, text);
        return x;
    }

    private void errorsOfFire() {
        due.of("FULL if, by those that would be fired now, more than 60 would have been fired; NONE if none waits.");
        int[][] bad = {{0, 0}, {21, 0}, {1, -1}, {1, 501}, {0, 501}, {21, -1}};
        for (int[] of : bad) {
            refused("bad, 60 are fired", Scenes::fullOfShots, x -> x.fire(of[0], of[1]), BAD_VALUE);
            refused("bad, none waits", Scenes::fresh, x -> x.fire(of[0], of[1]), BAD_VALUE);
            refused("bad, some wait", Scenes::rich, x -> x.fire(of[0], of[1]), BAD_VALUE);
        }
        refused("fire(1, 0), 60 are fired", Scenes::fullOfShots, x -> x.fire(1, 0), FULL);
        refused("fire(20, 500), 60 are fired", Scenes::fullOfShots, x -> x.fire(20, 500), FULL);
        refused("fire(1, 0), none waits", Scenes::fresh, x -> x.fire(1, 0), NONE);
        refused("fire(20, 500), none waits", Scenes::fresh, x -> x.fire(20, 500), NONE);
        refused("fire(1, 0), 60 are fired and none waits", OrderTest::fullAndNoneWaits, x -> x.fire(1, 0), NONE);
        refused("fire(20, 0), 60 are fired and none waits", OrderTest::fullAndNoneWaits, x -> x.fire(20, 0), NONE);
        refused("fire(0, 0), 60 are fired and none waits", OrderTest::fullAndNoneWaits, x -> x.fire(0, 0), BAD_VALUE);
    }

    private static CaughtPellets fullAndNoneWaits() {
        CaughtPellets x = Scenes.fullOfShots();
        x.unload(2000);
        return x;
    }

    private void errorsOfShots() {
        due.of("UNKNOWN; NOT_POSSIBLE if it does not count; NONE if it is so already.");
        refused("strike(5, true)", Scenes::rich, x -> x.strike(5, true), UNKNOWN);
        refused("strike(5, false)", Scenes::rich, x -> x.strike(5, false), UNKNOWN);
        refused("strike(-1, false)", Scenes::rich, x -> x.strike(-1, false), UNKNOWN);
        refused("strike, it does not count", Scenes::rich, x -> x.strike(4, true), NOT_POSSIBLE);
        refused("take back, it does not count and is not struck", Scenes::rich, x -> x.strike(4, false), NOT_POSSIBLE);
        for (int i = 0; i <= 3; i++) {
            int shot = i;
            refused("so already", Scenes::rich, x -> x.strike(shot, shot == 1), NONE);
        }
        for (int i = 40; i <= 59; i++) {
            int shot = i;
            due.is("strike(" + shot + ", true)", Scenes.fullOfShots().strike(shot, true), NOT_POSSIBLE);
            due.is("strike(" + shot + ", false)", Scenes.fullOfShots().strike(shot, false), NOT_POSSIBLE);
        }
        due.of("Returns the number; UNKNOWN; BAD_VALUE.");
        int[] whats = {-1, 8, Integer.MIN_VALUE, Integer.MAX_VALUE};
        for (int what : whats) {
            refused("shot(5, " + what + ")", Scenes::rich, x -> x.shot(5, what), UNKNOWN);
            refused("shot(-1, " + what + ")", Scenes::rich, x -> x.shot(-1, what), UNKNOWN);
            refused("shot(0, " + what + ") of none", Scenes::fresh, x -> x.shot(0, what), UNKNOWN);
            refused("shot(4, " + what + ")", Scenes::rich, x -> x.shot(4, what), BAD_VALUE);
        }
    }

    private void errorsOfStandards() {
        due.of("BAD_VALUE; FULL if 5 are kept.");
        refused("keepStandard(49, 0), full", Scenes::fullOfStandards, x -> x.keepStandard(49, 0), BAD_VALUE);
        refused("keepStandard(901, 0), full", Scenes::fullOfStandards, x -> x.keepStandard(901, 0), BAD_VALUE);
        refused("keepStandard(400, -1), full", Scenes::fullOfStandards, x -> x.keepStandard(400, -1), BAD_VALUE);
        refused("keepStandard(400, 101), full", Scenes::fullOfStandards, x -> x.keepStandard(400, 101), BAD_VALUE);
        refused("keepStandard(50, 0), full", Scenes::fullOfStandards, x -> x.keepStandard(50, 0), FULL);
        refused("keepStandard(900, 100), full", Scenes::fullOfStandards, x -> x.keepStandard(900, 100), FULL);
        due.of("Returns the number; UNKNOWN; BAD_VALUE.");
        for (int what : new int[] {-1, 4, Integer.MIN_VALUE, Integer.MAX_VALUE}) {
            refused("standard(2, " + what + ")", Scenes::rich, x -> x.standard(2, what), UNKNOWN);
            refused("standard(-1, " + what + ")", Scenes::rich, x -> x.standard(-1, what), UNKNOWN);
            refused("standard(0, " + what + ") of none", Scenes::fresh, x -> x.standard(0, what), UNKNOWN);
            refused("standard(1, " + what + ")", Scenes::rich, x -> x.standard(1, what), BAD_VALUE);
        }
        due.of("the previous one; BAD_VALUE; NONE if it is so already.");
        refused("setLimit(40), so already", Scenes::rich, x -> x.setLimit(40), NONE);
        refused("setLimit(30), so already", Scenes::fresh, x -> x.setLimit(30), NONE);
        refused("setLimit(0)", Scenes::rich, x -> x.setLimit(0), BAD_VALUE);
    }

    private void noneIsNoError() {
        due.of("how many shots are struck by that; NONE if none is bad.");
        refused("clean() of none", Scenes::fresh, x -> x.clean(), NONE);
        refused("clean(), none is bad", () -> Scenes.series(400, 430, 370), x -> x.clean(), NONE);
        refused("clean() again", OrderTest::cleaned, x -> x.clean(), NONE);
        due.of("how many they were; NONE if there is none.");
        refused("forget() of none", Scenes::fresh, x -> x.forget(), NONE);
        refused("forget() again", OrderTest::forgotten, x -> x.forget(), NONE);
        due.of("Returns the number of states that are left; NONE if the history is empty.");
        refused("undo() of none", Scenes::fresh, x -> x.undo(), NONE);
        refused("undo() behind all", OrderTest::withoutHistory, x -> x.undo(), NONE);
        due.of("NONE if there is no snapshot.");
        refused("restore() of none", Scenes::fresh, x -> x.restore(), NONE);
        refused("restore() of none, other things are there", () -> Scenes.series(400, 410), x -> x.restore(), NONE);
        due.of("how many; NONE if it is at rest.");
        refused("untilRest() of a new object", Scenes::fresh, x -> x.untilRest(), NONE);
        refused("untilRest() at rest", Scenes::rich, x -> x.untilRest(), NONE);
    }

    private static CaughtPellets cleaned() {
        CaughtPellets x = Scenes.series(400, 430, 370, 500);
        x.clean();
        return x;
    }

    private static CaughtPellets forgotten() {
        CaughtPellets x = Scenes.rich();
        x.forget();
        return x;
    }

    private static CaughtPellets withoutHistory() {
        CaughtPellets x = Scenes.rich();
        for (int i = 0; i < 4; i++) {
            x.undo();
        }
        return x;
    }

    private void noneOfSeries() {
        due.of("1 for its mean (NONE without shots)");
        noneOfSeries(1);
        due.of("4 for its first shot (NONE without one)");
        noneOfSeries(4);
        due.of("5 for the shot that is nearest to the mean (of several the first one; NONE without shots)");
        noneOfSeries(5);
    }

    private void noneOfSeries(int what) {
        refused("no shot is fired", Scenes::fresh, x -> x.series(what), NONE);
        refused("the only one is struck", OrderTest::onlyOneIsStruck, x -> x.series(what), NONE);
        refused("the only one does not count", OrderTest::onlyOneDoesNotCount, x -> x.series(what), NONE);
        refused("they are forgotten", OrderTest::forgotten, x -> x.series(what), NONE);
    }

    private static CaughtPellets onlyOneIsStruck() {
        CaughtPellets x = Scenes.series(400);
        x.strike(0, true);
        return x;
    }

    private static CaughtPellets onlyOneDoesNotCount() {
        CaughtPellets x = new CaughtPellets();
        x.cord(0, 2006);
        x.load(80, 400);
        x.fire(1, 0);
        return x;
    }
}
