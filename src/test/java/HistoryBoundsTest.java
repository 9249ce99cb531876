import java.util.List;

/** Bounds of HISTORY: the promises 20 to 22, and which calls record a state. */
public final class HistoryBoundsTest {
    private static final int ACTS = 17;
    private static final int MOST_STATES = 4;

    private final Due due = new Due();

    private HistoryBoundsTest() {
    }

    public static void main(String[] args) {
        HistoryBoundsTest test = new HistoryBoundsTest();
        test.atMostFourStates();
        test.oldestIsDroppedByEachAct();
        test.statesGoRoundAndRound();
        test.statesKeepWhatIsWrittenOver();
        test.undoDownToNone();
        test.eachActRecordsOneState();
        test.noErrorRecordsAState();
        test.whatIsNoAct();
        test.everythingButTheText();
        test.noSnapshotAndOne();
        test.snapshotStays();
        test.restoreDropsTheOldest();
        test.keepCountsShots();
        test.due.end();
    }

    private void atMostFourStates() {
        due.of("A history of at most 4 states is kept");
        CaughtPellets x = new CaughtPellets();
        int[] states = {1, 2, 3, 4, 4, 4};
        for (int i = 0; i < states.length; i++) {
            x.setLimit(100 + i);
            due.is("states behind " + (i + 1) + " acts", x.count(19), states[i]);
        }
        due.of("when one more is recorded, the oldest one is dropped");
        int[] limits = {104, 103, 102, 101};
        for (int i = 0; i < limits.length; i++) {
            due.is("undo()", x.undo(), 3 - i);
            due.is("the limit", x.count(14), limits[i]);
        }
        due.is("undo() of none", x.undo(), -5);
        due.is("the limit", x.count(14), 101);
    }

    private static CaughtPellets readyForActs() {
        CaughtPellets x = new CaughtPellets();
        Scenes.addToSeries(x, 400, 410, 600);
        x.keepStandard(400, 20);
        x.load(80, 400);
        x.keep();
        x.load(80, 401);
        x.fire(1, 0);
        x.stop();
        Told.write(x, "5@50x3;7.5@420");
        return x;
    }

    private static boolean needsSwinging(int act) {
        return act == 15 || act == 16;
    }

    private static CaughtPellets readyFor(int act) {
        CaughtPellets x = readyForActs();
        if (needsSwinging(act)) {
            x.undo();
        }
        return x;
    }

    private static int act(CaughtPellets x, int number) {
        switch (number) {
            case 0: return x.block(9000);
            case 1: return x.digOut();
            case 2: return x.cord(3, 2005);
            case 3: return x.set(2, 500);
            case 4: return x.load(10, 50);
            case 5: return x.loadAll();
            case 6: return x.unload(80);
            case 7: return x.fire(1, 0);
            case 8: return x.strike(0, true);
            case 9: return x.clean();
            case 10: return x.forget();
            case 11: return x.setLimit(1);
            case 12: return x.keepStandard(50, 0);
            case 13: return x.dropStandard(0);
            case 14: return x.restore();
            case 15: return x.swing(1);
            default: return x.stop();
        }
    }

    private void oldestIsDroppedByEachAct() {
        due.of("when one more is recorded, the oldest one is dropped");
        for (int number = 0; number < ACTS; number++) {
            CaughtPellets x = readyFor(number);
            if (needsSwinging(number)) {
                x.setLimit(31);
            }
            due.is("states ahead of act " + number, x.count(19), MOST_STATES);
            CaughtPellets twin = readyFor(number);
            if (needsSwinging(number)) {
                twin.setLimit(31);
            }
            due.is("act " + number + " is no error", Math.min(0, act(x, number)), 0);
            due.is("states behind act " + number, x.count(19), MOST_STATES);
            due.is("undo() of act " + number, x.undo(), 3);
            due.same("the state ahead of act " + number, Told.state(x), Told.state(twin));
            for (int left = 2; left >= 0; left--) {
                due.is("undo()", x.undo(), left);
                twin.undo();
            }
            due.same("the oldest state but one, act " + number, Told.state(x), Told.state(twin));
            due.is("undo() of none", x.undo(), -5);
            due.is("the other one has one more", twin.undo(), 0);
        }
    }

    private void statesGoRoundAndRound() {
        due.of("undo() removes and restores the latest one");
        for (int acts = 1; acts <= 13; acts++) {
            for (int undone = 0; undone <= Math.min(acts, MOST_STATES); undone++) {
                CaughtPellets x = new CaughtPellets();
                for (int i = 1; i <= acts; i++) {
                    x.setLimit(100 + i);
                }
                int limit = acts;
                for (int i = 1; i <= undone; i++) {
                    x.undo();
                    limit--;
                }
                int states = Math.min(acts, MOST_STATES) - undone;
                due.is("states behind " + acts + " acts less " + undone, x.count(19), states);
                due.is("the limit", x.count(14), limit == 0 ? 30 : 100 + limit);
                x.setLimit(50);
                x.setLimit(51);
                due.is("states", x.count(19), Math.min(MOST_STATES, states + 2));
                due.is("undo()", x.undo(), Math.min(MOST_STATES, states + 2) - 1);
                due.is("the limit", x.count(14), 50);
                x.undo();
                due.is("the limit", x.count(14), limit == 0 ? 30 : 100 + limit);
            }
        }
    }

    /** The rooms of shots, standards and the row are used again by later acts: the states keep their own. */
    private void statesKeepWhatIsWrittenOver() {
        due.of("undo() removes and restores the latest one");
        CaughtPellets x = readyForActs();
        x.load(90, 410);
        x.strike(1, true);
        x.keep();
        List<Integer> before = Told.state(x);
        x.forget();
        Told.write(x, "70@700;7.1@701");
        x.unload(2000);
        x.loadAll();
        x.fire(2, 0);
        due.is("a new first shot", x.shot(0, 0), 700);
        due.is("it is not struck", x.shot(1, 5), 0);
        for (int left = 3; left >= 0; left--) {
            due.is("undo()", x.undo(), left);
        }
        due.same("the state behind undo()", Told.state(x), before);
        x.unload(2000);
        x.dropStandard(0);
        x.keepStandard(900, 100);
        x.load(10, 50);
        for (int left = 3; left >= 0; left--) {
            due.is("undo()", x.undo(), left);
        }
        due.same("the state behind undo()", Told.state(x), before);
        due.of("Restores the state of the snapshot, which stays.");
        x.forget();
        x.unload(2000);
        x.loadAll();
        x.fire(2, 0);
        due.is("restore()", x.restore(), 4);
        due.same("the state behind restore()", Told.state(x), before);
    }

    private void undoDownToNone() {
        due.of("Returns the number of states that are left; NONE if the history is empty.");
        CaughtPellets x = new CaughtPellets();
        due.is("of a new object", x.undo(), -5);
        x.setLimit(40);
        due.is("of one", x.undo(), 0);
        due.is("of none", x.undo(), -5);
        due.is("there is no way back", x.count(14), 30);
        x.setLimit(41);
        x.setLimit(42);
        due.is("of two", x.undo(), 1);
        x.setLimit(43);
        due.is("of two", x.undo(), 1);
        due.is("the limit", x.count(14), 41);
        due.is("of one", x.undo(), 0);
        due.is("the limit", x.count(14), 30);
        due.is("of none", x.undo(), -5);
    }

    private void eachActRecordsOneState() {
        due.of("Each call of a method that is described as an act, and returns no error and not NONE, records");
        for (int number = 0; number < ACTS; number++) {
            for (int states = 1; states < MOST_STATES; states++) {
                CaughtPellets x = readyFor(number);
                x.keep();
                undoAll(x);
                x.restore();
                for (int i = 1; i < states; i++) {
                    x.setLimit(50 + i);
                }
                oneMoreState(x, number, states);
            }
        }
        for (int number : new int[] {0, 2, 3, 4, 5, 8, 9, 10, 11, 12, 13, 14}) {
            CaughtPellets x = readyFor(number);
            undoAll(x);
            oneMoreState(x, number, 0);
        }
    }

    private static void undoAll(CaughtPellets x) {
        for (int i = 0; i < MOST_STATES; i++) {
            x.undo();
        }
    }

    private void oneMoreState(CaughtPellets x, int number, int states) {
        List<Integer> before = Told.state(x);
        due.is("states ahead of act " + number, x.count(19), states);
        due.is("act " + number + " is no error", Math.min(0, act(x, number)), 0);
        due.is("states behind act " + number, x.count(19), states + 1);
        due.is("undo() of act " + number, x.undo(), states);
        due.same("the state behind undo() of act " + number, Told.state(x), before);
    }

    private void noErrorRecordsAState() {
        due.of("A call that returns an error or NONE changes nothing.");
        CaughtPellets x = new CaughtPellets();
        x.setLimit(40);
        int[] answers = {
            x.block(999), x.digOut(), x.cord(4, 2000), x.cord(0, 499), x.cord(0, 2000), x.set(4, 1), x.set(0, 51),
            x.set(0, 5), x.swing(0), x.swing(1), x.stop(), x.load(9, 50), x.loadAll(), x.unload(9), x.unload(10),
            x.fire(0, 0), x.fire(1, 0), x.strike(0, true), x.clean(), x.forget(), x.setLimit(0), x.setLimit(40),
            x.keepStandard(49, 0), x.dropStandard(0), x.restore(),
        };
        int[] dueAnswers = {
            -2, -5, -1, -2, -5, -2, -2, -5, -2, -5, -5, -2, -100, -2, -5, -2, -5, -1, -5, -5, -2, -5, -2, -1, -5,
        };
        for (int i = 0; i < answers.length; i++) {
            due.is("answer " + i, answers[i], dueAnswers[i]);
        }
        due.is("states", x.count(19), 1);
        due.is("undo()", x.undo(), 0);
        due.is("the limit", x.count(14), 30);
    }

    private void whatIsNoAct() {
        due.of("A state is everything but the text, the history and the snapshot.");
        CaughtPellets x = readyForActs();
        due.is("states", x.count(19), MOST_STATES);
        CaughtPellets twin = readyForActs();
        x.keep();
        x.type('x');
        x.type('2');
        due.is("states", x.count(19), MOST_STATES);
        due.same("the state", Told.state(x), Told.state(twin));
        for (int left = 3; left >= 0; left--) {
            due.is("undo()", x.undo(), left);
            twin.undo();
        }
        due.same("the oldest state", Told.state(x), Told.state(twin));
        due.is("undo() is no act", x.undo(), -5);
        CaughtPellets y = new CaughtPellets();
        y.keep();
        y.clearText();
        due.is("keep() and clearText() of a new object are no acts", y.count(19), 0);
        due.is("undo()", y.undo(), -5);
    }

    private void everythingButTheText() {
        due.of("A state is everything but the text, the history and the snapshot.");
        CaughtPellets x = new CaughtPellets();
        x.keep();
        x.setLimit(40);
        Told.write(x, "5@50");
        x.undo();
        due.is("undo() leaves the text", x.count(20), 4);
        due.is("as it was", x.loadAll(), 1);
        due.is("restore()", x.restore(), 0);
        due.is("restore() leaves the text", x.count(20), 4);
        x.clearText();
        x.undo();
        due.is("undo() does not bring the text back", x.count(20), 0);
        x.keep();
        Told.write(x, "5@50x2");
        x.restore();
        due.is("restore() does not bring the empty text back", x.loadAll(), 2);
    }

    private void noSnapshotAndOne() {
        due.of("There is one snapshot, empty at first.");
        CaughtPellets x = new CaughtPellets();
        due.is("restore() of none", x.restore(), -5);
        x.setLimit(40);
        due.is("restore() of none", x.restore(), -5);
        due.is("the limit", x.count(14), 40);
        due.is("states", x.count(19), 1);
        due.is("keep()", x.keep(), 0);
        due.is("restore()", x.restore(), 0);
        due.of("Takes a snapshot of the state, in place of the one that was.");
        x.setLimit(41);
        due.is("keep() in place of it", x.keep(), 0);
        x.setLimit(42);
        due.is("restore()", x.restore(), 0);
        due.is("the limit", x.count(14), 41);
        due.is("undo()", x.undo(), 3);
        due.is("the limit", x.count(14), 42);
        due.is("undo() does not bring the former snapshot back", x.restore(), 0);
        due.is("the limit", x.count(14), 41);
    }

    private void snapshotStays() {
        due.of("Restores the state of the snapshot, which stays.");
        CaughtPellets x = readyForActs();
        List<Integer> first = null;
        for (int number = 0; number < 5; number++) {
            due.is("restore()", x.restore(), 3);
            first = first == null ? Told.state(x) : first;
            due.is("act " + number, Math.min(0, act(x, number == 1 ? 8 : number)), 0);
            due.is("restore()", x.restore(), 3);
        }
        due.same("the snapshot is as it was", Told.state(x), first);
    }

    private void restoreDropsTheOldest() {
        due.of("Restores the state of the snapshot, which stays. This is an act.");
        CaughtPellets x = new CaughtPellets();
        x.keep();
        for (int i = 1; i <= 4; i++) {
            x.setLimit(100 + i);
        }
        due.is("restore()", x.restore(), 0);
        due.is("the limit", x.count(14), 30);
        due.is("states", x.count(19), 4);
        int[] limits = {104, 103, 102, 101};
        for (int i = 0; i < limits.length; i++) {
            due.is("undo()", x.undo(), 3 - i);
            due.is("the limit", x.count(14), limits[i]);
        }
        due.is("undo() of none", x.undo(), -5);
        due.is("restore() as it is stays an act", x.restore(), 0);
        due.is("states", x.count(19), 1);
        due.is("restore() of the same", x.restore(), 0);
        due.is("states", x.count(19), 2);
    }

    private void keepCountsShots() {
        due.of("Returns how many shots were fired.");
        CaughtPellets x = new CaughtPellets();
        due.is("none", x.keep(), 0);
        x.load(80, 400);
        due.is("one waits", x.keep(), 0);
        x.fire(1, 0);
        due.is("one", x.keep(), 1);
        x.strike(0, true);
        due.is("a struck one", x.keep(), 1);
        CaughtPellets y = Scenes.fullOfShots();
        due.is("60", y.keep(), 60);
        y.forget();
        due.of("how many shots were fired, as they are then; NONE if there is no snapshot.");
        due.is("60 again", y.restore(), 60);
        due.is("count(7)", y.count(7), 60);
        due.is("the last one", y.shot(59, 2), 3);
        y.forget();
        due.is("none", y.keep(), 0);
        y.undo();
        due.is("restore()", y.restore(), 0);
    }
}
