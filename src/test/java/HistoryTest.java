import java.util.List;

/** Promises 20 to 22: undo, keep, restore; and which calls are acts. */
public final class HistoryTest {
    private HistoryTest() {
    }

    public static void main(String[] args) {
        Due due = new Due();
        fourStatesAreKept(due);
        everyActIsTakenBack(due);
        whatIsWrittenOverComesBack(due);
        callsThatAreNoActs(due);
        snapshotIsKeptAndRestored(due);
        snapshotIsNoState(due);
        restoreIsAnAct(due);
        due.end();
    }

    private static void fourStatesAreKept(Due due) {
        due.of("`int undo()`: Removes and restores the latest state of the history.");
        CaughtPellets x = new CaughtPellets();
        due.is("undo() of none", x.undo(), -5);
        for (int limit = 1; limit <= 6; limit++) {
            x.setLimit(limit);
            due.is("count(19)", x.count(19), Math.min(limit, 4));
        }
        for (int left = 3; left >= 0; left--) {
            due.is("undo()", x.undo(), left);
            due.is("the limit", x.count(14), 2 + left);
            due.is("count(19)", x.count(19), left);
        }
        due.is("undo() of none", x.undo(), -5);
        due.is("the limit", x.count(14), 2);
        x.setLimit(10);
        x.setLimit(11);
        x.undo();
        x.setLimit(12);
        due.is("undo()", x.undo(), 1);
        due.is("the limit", x.count(14), 10);
        due.is("undo()", x.undo(), 0);
        due.is("the limit", x.count(14), 2);
    }

    private static CaughtPellets prepared() {
        CaughtPellets x = new CaughtPellets();
        Told.fireEach(x, 400, 410, 300);
        x.load(80, 420);
        x.load(90, 430);
        x.keepStandard(400, 20);
        Told.write(x, "5@50x3;7.5@420");
        x.keep();
        x.setLimit(40);
        return x;
    }

    private static int act(CaughtPellets x, int number) {
        switch (number) {
            case 0: return x.block(9000);
            case 1: return x.digOut();
            case 2: return x.cord(2, 1000);
            case 3: return x.set(1, 100);
            case 4: return x.load(10, 50);
            case 5: return x.loadAll();
            case 6: return x.unload(80);
            case 7: return x.fire(2, 7);
            case 8: return x.strike(1, true);
            case 9: return x.clean();
            case 10: return x.forget();
            case 11: return x.setLimit(50);
            case 12: return x.keepStandard(500, 1);
            case 13: return x.dropStandard(0);
            case 14: return x.restore();
            case 15: return x.swing(3);
            default: return x.stop();
        }
    }

    private static void everyActIsTakenBack(Due due) {
        due.of("Each call of a method that is described as an act, and returns no error and not NONE, records "
            + "the state that was before it.");
        for (int number = 0; number <= 16; number++) {
            CaughtPellets x = prepared();
            if (number >= 15) {
                x.fire(1, 1);
            }
            List<Integer> before = Told.state(x);
            due.is("act " + number + " is no error", act(x, number) >= 0 ? 1 : 0, 1);
            due.is("act " + number + " changes the state", Told.state(x).equals(before) ? 1 : 0, 0);
            due.is("count(19) behind act " + number, x.count(19), 4);
            due.is("undo() of act " + number, x.undo(), 3);
            due.same("the state behind undo() of act " + number, Told.state(x), before);
            due.is("the same act " + number + " again", act(x, number) >= 0 ? 1 : 0, 1);
        }
    }

    private static void whatIsWrittenOverComesBack(Due due) {
        due.of("undo() removes and restores the latest one.");
        CaughtPellets x = prepared();
        List<Integer> before = Told.state(x);
        x.keep();
        x.forget();
        Told.write(x, "50@600;60@700");
        x.unload(2000);
        x.loadAll();
        x.fire(2, 0);
        due.is("other shots have their numbers", x.shot(1, 2), 1);
        for (int left = 3; left >= 0; left--) {
            due.is("undo()", x.undo(), left);
        }
        due.same("behind undo()", Told.state(x), before);
        x.forget();
        x.unload(2000);
        x.loadAll();
        x.fire(2, 0);
        due.is("restore()", x.restore(), 3);
        due.same("behind restore()", Told.state(x), before);
        x.dropStandard(0);
        x.keepStandard(500, 7);
        x.undo();
        due.is("undo()", x.undo(), 2);
        due.same("behind undo()", Told.state(x), before);
    }

    private static void callsThatAreNoActs(Due due) {
        due.of("Each call of a method that is described as an act");
        CaughtPellets x = new CaughtPellets();
        x.setLimit(40);
        Told.everything(x);
        x.type('5');
        x.clearText();
        x.keep();
        x.untilRest();
        due.is("count(19)", x.count(19), 1);
        due.is("undo()", x.undo(), 0);
        due.is("undo() is no act", x.count(19), 0);
        due.is("the limit", x.count(14), 30);
    }

    private static void snapshotIsKeptAndRestored(Due due) {
        due.of("Returns how many shots were fired, as they are then; NONE if there is no snapshot.");
        CaughtPellets x = new CaughtPellets();
        due.is("restore() of none", x.restore(), -5);
        due.is("no act", x.count(19), 0);
        due.of("`int keep()`: Takes a snapshot of the state, in place of the one that was.");
        due.is("keep()", x.keep(), 0);
        Told.fireEach(x, 400, 410);
        due.is("restore()", x.restore(), 0);
        due.same("as it was", Told.state(x), Told.state(new CaughtPellets()));
        Told.fireEach(x, 400, 410);
        due.is("keep() in place of it", x.keep(), 2);
        x.strike(0, true);
        x.load(80, 300);
        x.fire(1, 0);
        List<Integer> before = Told.state(x);
        due.is("restore()", x.restore(), 2);
        due.is("what it holds", x.count(1), 160);
        due.is("not struck", x.shot(0, 5), 0);
        due.is("undo()", x.undo(), 3);
        due.same("as it was", Told.state(x), before);
        due.of("`int restore()`: Restores the state of the snapshot, which stays. This is an act.");
        due.is("the snapshot stays", x.restore(), 2);
        x.strike(0, true);
        due.is("acts do not change the snapshot", x.restore(), 2);
        due.is("not struck", x.shot(0, 5), 0);
    }

    private static void snapshotIsNoState(Due due) {
        due.of("A state is everything but the text, the history and the snapshot.");
        CaughtPellets x = new CaughtPellets();
        x.setLimit(40);
        x.keep();
        due.is("undo()", x.undo(), 0);
        due.is("the limit", x.count(14), 30);
        due.is("restore()", x.restore(), 0);
        due.is("the limit", x.count(14), 40);
        due.is("restore() as it is already", x.restore(), 0);
        due.is("is an act all the same", x.count(19), 2);
    }

    private static void restoreIsAnAct(Due due) {
        due.of("Restores the state of the snapshot, which stays. This is an act.");
        CaughtPellets x = new CaughtPellets();
        x.keep();
        x.setLimit(40);
        x.setLimit(41);
        due.is("restore()", x.restore(), 0);
        due.is("the history is no state", x.count(19), 3);
        due.is("undo()", x.undo(), 2);
        due.is("the limit", x.count(14), 41);
        due.is("undo()", x.undo(), 1);
        due.is("the limit", x.count(14), 40);
    }
}
