/** Bounds of the promise 30: each number that is told of an empty and of a full object. */
public final class CountBoundsTest {
    private final Due due = new Due();

    private CountBoundsTest() {
    }

    public static void main(String[] args) {
        CountBoundsTest test = new CountBoundsTest();
        test.ofANewObject();
        test.ofAFullOne();
        test.ofTheLeastBlock();
        test.ofTheGreatestHeight();
        test.accountsOfWhatTheBlockHolds();
        test.halfSwingsSoFar();
        test.shotsThatDoNotCount();
        test.due.end();
    }

    private void counts(CaughtPellets x, int... counts) {
        for (int what = 0; what < counts.length; what++) {
            due.is("count(" + what + ")", x.count(what), counts[what]);
        }
    }

    private void ofANewObject() {
        due.of("Creates a block at rest.");
        counts(new CaughtPellets(), 4000, 0, 0, 40000, 0, 2000, 1, 0, 0, 0, 0, 0, 0, 0, 30, 5, 20, 10, 10, 0, 0);
    }

    private void ofAFullOne() {
        due.of("7 for shots that were fired and are kept, 8 for those of them that do not count");
        // From the height 200000 the block is at rest by 431 half swings, 40 times.
        CaughtPellets x = Scenes.fullOfShots();
        counts(x, 4000, 80000, 40, 120000, 0, 2000, 1, 60, 20, 2, 40 * 431, 80000, 0, 0, 30, 5, 20, 10, 40, 4, 29);
        due.of("9 for shots that wait");
        due.is("20 wait", Scenes.twentyWait().count(9), 20);
        due.of("13 for standards");
        due.is("5 are kept", Scenes.fullOfStandards().count(13), 5);
        due.of("20 for the length of the text");
        due.is("60 characters", Scenes.fullText().count(20), 60);
    }

    private void ofTheLeastBlock() {
        due.of("15 to 18 for the settings 0 to 3");
        CaughtPellets x = new CaughtPellets();
        x.block(1000);
        for (int cord = 0; cord < 4; cord++) {
            x.cord(cord, 500);
        }
        x.set(0, 0);
        x.set(1, 0);
        x.set(2, 1);
        x.set(3, 1);
        x.setLimit(1);
        counts(x, 1000, 0, 0, 10000, 0, 500, 1, 0, 0, 0, 0, 0, 0, 0, 1, 0, 0, 1, 1, 4, 0);
        CaughtPellets y = new CaughtPellets();
        y.block(9000);
        for (int cord = 0; cord < 4; cord++) {
            y.cord(cord, 3000);
        }
        y.set(0, 50);
        y.set(1, 500);
        y.set(2, 500);
        y.set(3, 40);
        y.setLimit(200);
        counts(y, 9000, 0, 0, 90000, 0, 3000, 1, 0, 0, 0, 0, 0, 0, 0, 200, 50, 500, 500, 40, 4, 0);
    }

    private void ofTheGreatestHeight() {
        due.of("4 for its height");
        due.is("the greatest", Scenes.atGreatestHeight().count(4), 300000);
        due.is("the least", Scenes.atHeight(1).count(4), 1);
        due.is("at rest", Scenes.rich().count(4), 0);
    }

    private void accountsOfWhatTheBlockHolds() {
        due.of("11 for all tenths of grams caught so far");
        CaughtPellets x = new CaughtPellets();
        x.load(10, 50);
        x.fire(1, 0);
        accounts(x, 10, 1, 10, 0);
        x.digOut();
        accounts(x, 0, 0, 10, 10);
        x.load(2000, 900);
        x.fire(1, 0);
        accounts(x, 2000, 1, 2010, 10);
        x.load(2000, 900);
        x.fire(1, 0);
        accounts(x, 2000, 1, 2010, 10);
        x.stop();
        due.of("12 for all tenths of grams dug out so far (with those in blocks that were changed)");
        x.block(9000);
        accounts(x, 0, 0, 2010, 2010);
        x.block(1000);
        accounts(x, 0, 0, 2010, 2010);
        x.undo();
        x.undo();
        accounts(x, 2000, 1, 2010, 10);
    }

    private void accounts(CaughtPellets x, int held, int pellets, int caught, int dugOut) {
        due.is("what it holds", x.count(1), held);
        due.is("its pellets", x.count(2), pellets);
        due.is("caught so far", x.count(11), caught);
        due.is("dug out so far", x.count(12), dugOut);
    }

    private void halfSwingsSoFar() {
        due.of("10 for half swings so far");
        CaughtPellets x = Scenes.swinging();
        due.is("none", x.count(10), 0);
        x.swing(1);
        due.is("one", x.count(10), 1);
        x.swing(500);
        due.is("until rest", x.count(10), 227);
        x.swing(500);
        due.is("at rest", x.count(10), 227);
        x.load(80, 400);
        x.fire(1, 3);
        due.is("behind a shot", x.count(10), 230);
        x.stop();
        due.is("stop() is none", x.count(10), 230);
        x.block(4000);
        x.forget();
        due.is("they are not forgotten", x.count(10), 230);
        x.undo();
        x.undo();
        x.undo();
        x.undo();
        due.is("undo() takes them back", x.count(10), 227);
    }

    private void shotsThatDoNotCount() {
        due.of("8 for those of them that do not count");
        CaughtPellets x = Scenes.swinging();
        due.is("none", x.count(8), 0);
        x.load(80, 400);
        x.fire(1, 0);
        due.is("one", x.count(8), 1);
        x.strike(0, true);
        due.is("a struck one is not among them", x.count(8), 1);
        x.forget();
        due.is("none is kept", x.count(8), 0);
        x.load(80, 400);
        x.fire(1, 0);
        due.is("the first one", x.count(8), 1);
    }
}
