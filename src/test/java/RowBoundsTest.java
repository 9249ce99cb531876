/** Bounds of the row and of shots that are fired: the promises 8, 10, 11, 14, 23 and 24. */
public final class RowBoundsTest {
    private final Due due = new Due();

    private RowBoundsTest() {
    }

    public static void main(String[] args) {
        RowBoundsTest test = new RowBoundsTest();
        test.atMostTwentyWait();
        test.lightestAndHeaviestAreLoaded();
        test.someMassAndLess();
        test.unloadsNoneAndAll();
        test.soManyOrAsManyAsWait();
        test.halfSwingsBehindEachShotThatCounts();
        test.noHalfSwingsAtRest();
        test.noHalfSwingsBehindAShotThatDoesNotCount();
        test.atMostSixtyByOneCall();
        test.atMostSixtyByThoseThatWait();
        test.numbersBeginAnewBehindForget();
        test.forgetsOneAndSixty();
        test.shotsBehindTheFirstSixty();
        test.placesMoveUp();
        test.due.end();
    }

    private void atMostTwentyWait() {
        due.of("At most 20 shots wait in a row, each with a mass and a speed.");
        CaughtPellets x = new CaughtPellets();
        for (int i = 1; i <= 20; i++) {
            due.is("load", x.load(100 + i, 300 + i), i);
        }
        due.is("the 21st", x.load(80, 400), -3);
        due.is("count(9)", x.count(9), 20);
        for (int i = 0; i < 20; i++) {
            due.is("mass at " + i, x.waiting(i, false), 101 + i);
            due.is("speed at " + i, x.waiting(i, true), 301 + i);
        }
        due.is("unload the first one", x.unload(101), 1);
        due.is("there is room for one", x.load(80, 400), 20);
        due.is("and no more", x.load(80, 400), -3);
        due.is("fire one", x.fire(1, 0), 1);
        due.is("there is room for one", x.load(80, 400), 20);
        due.is("and no more", x.load(80, 400), -3);
        due.is("undo()", x.undo(), 3);
        due.is("there is room for one", x.load(90, 410), 20);
        due.is("and no more", x.load(80, 400), -3);
        due.is("the last one", x.waiting(19, false), 90);
    }

    private void lightestAndHeaviestAreLoaded() {
        due.of("Puts a shot behind the row.");
        int[][] pellets = {{10, 50}, {10, 900}, {2000, 50}, {2000, 900}, {11, 51}, {1999, 899}};
        CaughtPellets x = new CaughtPellets();
        for (int i = 0; i < pellets.length; i++) {
            due.is("load", x.load(pellets[i][0], pellets[i][1]), i + 1);
            due.is("its mass", x.waiting(i, false), pellets[i][0]);
            due.is("its speed", x.waiting(i, true), pellets[i][1]);
        }
        int[][] bad = {{9, 50}, {10, 49}, {2001, 900}, {2000, 901}, {9, 49}, {2001, 901}, {50, 10}, {0, 0}};
        for (int[] of : bad) {
            due.is("load(" + of[0] + ", " + of[1] + ")", x.load(of[0], of[1]), -2);
        }
        due.is("count(9)", x.count(9), pellets.length);
    }

    private void someMassAndLess() {
        due.of("Unloads shots: those with some mass and less.");
        int[][] cases = {{499, 0}, {500, 1}, {501, 1}};
        for (int[] of : cases) {
            CaughtPellets x = new CaughtPellets();
            x.load(500, 400);
            due.is("unload(" + of[0] + ")", x.unload(of[0]), of[1] == 0 ? -5 : of[1]);
            due.is("count(9)", x.count(9), 1 - of[1]);
        }
        CaughtPellets x = new CaughtPellets();
        x.load(2000, 50);
        x.load(10, 900);
        x.load(1999, 51);
        x.load(11, 899);
        due.is("unload(10), by the mass and not the speed", x.unload(10), 1);
        due.is("unload(10) again", x.unload(10), -5);
        due.is("unload(11)", x.unload(11), 1);
        due.is("unload(1998)", x.unload(1998), -5);
        due.is("unload(1999)", x.unload(1999), 1);
        due.is("what is left", x.waiting(0, false), 2000);
        due.is("unload(1999) again", x.unload(1999), -5);
        due.is("unload(2000)", x.unload(2000), 1);
        due.is("count(9)", x.count(9), 0);
    }

    private void unloadsNoneAndAll() {
        due.of("how many are unloaded; BAD_VALUE; NONE if there is none.");
        CaughtPellets x = Scenes.twentyWait();
        due.is("unload(79) of 20", x.unload(79), -5);
        due.is("unload(80) of 20", x.unload(80), 20);
        due.is("count(9)", x.count(9), 0);
        due.is("waiting(0, true)", x.waiting(0, true), -5);
        due.is("unload(80) of none", x.unload(80), -5);
        due.is("undo()", x.undo(), 1);
        due.is("count(9)", x.count(9), 20);
        due.is("the last one", x.waiting(19, true), 400);
        CaughtPellets y = new CaughtPellets();
        for (int i = 0; i < 20; i++) {
            y.load(i % 2 == 0 ? 100 : 200, 300 + i);
        }
        due.is("every other one", y.unload(199), 10);
        for (int i = 0; i < 10; i++) {
            due.is("those left keep their order", y.waiting(i, true), 301 + 2 * i);
        }
        due.is("no more", y.waiting(10, true), -5);
    }

    private void soManyOrAsManyAsWait() {
        due.of("1 to 20: so many, or as many as wait");
        int[][] cases = {{1, 1}, {2, 2}, {3, 3}, {4, 3}, {20, 3}};
        for (int[] of : cases) {
            CaughtPellets x = new CaughtPellets();
            for (int i = 0; i < 3; i++) {
                x.load(80, 400 + i);
            }
            due.is("fire(" + of[0] + ", 500) of 3", x.fire(of[0], 500), of[1]);
            due.is("fired", x.count(7), of[1]);
            due.is("waiting", x.count(9), 3 - of[1]);
            due.is("the first one that waits", x.waiting(0, true), of[1] == 3 ? -5 : 400 + of[1]);
        }
        int[] shots = {1, 19, 20};
        for (int of : shots) {
            CaughtPellets x = Scenes.twentyWait();
            x.set(3, 40);
            due.is("fire(" + of + ", 500) of 20", x.fire(of, 500), of);
            due.is("waiting", x.count(9), 20 - of);
        }
    }

    private void halfSwingsBehindEachShotThatCounts() {
        due.of("behind each shot that counts so many half swings follow as are told");
        int[][] cases = {{0, 0, 3246}, {1, 1, 3181}, {2, 2, 3117}};
        for (int[] of : cases) {
            CaughtPellets x = new CaughtPellets();
            x.load(80, 400);
            due.is("fire(1, " + of[0] + ")", x.fire(1, of[0]), 1);
            due.is("half swings", x.count(10), of[1]);
            due.is("its height", x.count(4), of[2]);
            due.is("the first height", x.shot(0, 3), 3246);
        }
        CaughtPellets x = new CaughtPellets();
        x.set(1, 0);
        x.set(2, 1);
        x.load(15, 846);
        x.load(15, 846);
        due.is("500 of 512", x.fire(2, 500), 1);
        due.is("half swings", x.count(10), 500);
        due.is("its height", x.count(4), 12);
        due.is("the second one does not count", x.shot(1, 2), 1);
    }

    private void noHalfSwingsAtRest() {
        due.of("(none more once it is at rest)");
        int[][] cases = {{226, 226, 1}, {227, 227, 2}, {228, 227, 2}, {500, 227, 2}};
        for (int[] of : cases) {
            CaughtPellets x = new CaughtPellets();
            x.load(80, 400);
            x.load(10, 50);
            due.is("fire(2, " + of[0] + ")", x.fire(2, of[0]), of[2]);
            due.is("half swings", x.count(10), of[1]);
        }
        CaughtPellets y = new CaughtPellets();
        y.load(10, 50);
        due.is("a shot without height", y.fire(1, 500), 1);
        due.is("half swings", y.count(10), 0);
    }

    private void noHalfSwingsBehindAShotThatDoesNotCount() {
        due.of("0 to 500: the half swings behind each shot that counts");
        CaughtPellets x = Scenes.swinging();
        for (int i = 0; i < 20; i++) {
            x.load(80, 400);
        }
        due.is("fire(20, 500) while it swings", x.fire(20, 500), 0);
        due.is("half swings", x.count(10), 0);
        due.is("its height", x.count(4), 3246);
        due.is("those that do not count", x.count(8), 20);
    }

    /** Fires some shots, none of which counts. */
    private static CaughtPellets thatManyFired(int shots) {
        CaughtPellets x = new CaughtPellets();
        x.cord(0, 2006);
        Told.write(x, "8@400x9;8@400x9;8@400x2");
        for (int left = shots; left > 0; left -= 20) {
            x.loadAll();
            x.fire(Math.min(20, left), 0);
        }
        x.unload(2000);
        return x;
    }

    private void atMostSixtyByOneCall() {
        due.of("FULL if, by those that would be fired now, more than 60 would have been fired");
        int[][] cases = {{40, 20}, {41, 19}, {50, 10}, {58, 2}, {59, 1}};
        for (int[] of : cases) {
            CaughtPellets x = thatManyFired(of[0]);
            Scenes.loadText(x, "8@400x9;8@400x9;8@400x2");
            due.is("fired", x.count(7), of[0]);
            if (of[1] < 20) {
                due.is("one too many", x.fire(of[1] + 1, 0), -3);
                due.is("20", x.fire(20, 0), -3);
            }
            due.is("none is fired", x.count(7), of[0]);
            due.is("all wait", x.count(9), 20);
            due.is("just 60", x.fire(of[1], 0), 0);
            due.is("fired", x.count(7), 60);
            due.is("wait", x.count(9), 20 - of[1]);
            due.is("one more", x.fire(1, 0), of[1] == 20 ? -5 : -3);
        }
    }

    private void atMostSixtyByThoseThatWait() {
        due.of("FULL if, by those that would be fired now, more than 60 would have been fired");
        CaughtPellets x = thatManyFired(59);
        x.load(80, 400);
        due.is("20, but one waits", x.fire(20, 0), 0);
        due.is("fired", x.count(7), 60);
        due.is("none waits", x.fire(20, 0), -5);
        CaughtPellets y = thatManyFired(58);
        for (int i = 0; i < 3; i++) {
            y.load(80, 400);
        }
        due.is("20, but three wait", y.fire(20, 0), -3);
        due.is("3", y.fire(3, 0), -3);
        due.is("2", y.fire(2, 0), 0);
        due.is("fired", y.count(7), 60);
        due.is("1", y.fire(1, 0), -3);
        due.is("forget()", y.forget(), 60);
        due.is("1", y.fire(1, 0), 0);
        due.is("fired", y.count(7), 1);
    }

    private void numbersBeginAnewBehindForget() {
        due.of("Shots that were fired are numbered from 0 in their order (at most 60)");
        CaughtPellets x = thatManyFired(60);
        due.is("shot(59, 1)", x.shot(59, 1), 400);
        due.is("shot(60, 1)", x.shot(60, 1), -1);
        due.is("forget()", x.forget(), 60);
        due.is("shot(0, 1)", x.shot(0, 1), -1);
        due.is("strike(0, true)", x.strike(0, true), -1);
        x.load(90, 410);
        x.load(91, 411);
        due.is("fire(2, 0)", x.fire(2, 0), 0);
        due.is("the first one", x.shot(0, 1), 410);
        due.is("the second one", x.shot(1, 1), 411);
        due.is("no more", x.shot(2, 1), -1);
    }

    private void forgetsOneAndSixty() {
        due.of("how many they were; NONE if there is none.");
        CaughtPellets x = new CaughtPellets();
        due.is("none", x.forget(), -5);
        Told.fireEach(x, 400);
        x.strike(0, true);
        due.is("a struck one", x.forget(), 1);
        due.is("none", x.forget(), -5);
        due.is("undo()", x.undo(), 3);
        due.is("it is struck", x.shot(0, 5), 1);
        due.is("60", thatManyFired(60).forget(), 60);
        CaughtPellets y = Scenes.rich();
        int row = y.count(9);
        int standards = y.count(13);
        due.is("5", y.forget(), 5);
        due.is("the row stays", y.count(9), row);
        due.is("the standards stay", y.count(13), standards);
        due.is("the limit stays", y.count(14), 40);
        due.is("the pellets stay", y.count(2), 4);
        due.is("none that does not count", y.count(8), 0);
        due.is("the series", y.series(0), 0);
    }

    private void shotsBehindTheFirstSixty() {
        due.of("each keeps its mass, its speed, the reason, its first height and its told speed "
            + "(0 both if it does not count), and may be struck.");
        CaughtPellets x = new CaughtPellets();
        for (int round = 0; round < 3; round++) {
            for (int i = 0; i < 20; i++) {
                x.load(100 + 20 * round + i, 200 + 20 * round + i);
            }
            x.fire(20, 0);
        }
        due.is("fired", x.count(7), 60);
        for (int shot = 0; shot < 60; shot++) {
            due.is("mass of " + shot, x.shot(shot, 0), 100 + shot);
            due.is("speed of " + shot, x.shot(shot, 1), 200 + shot);
            due.is("reason of " + shot, x.shot(shot, 2), shot == 0 ? 0 : 1);
            due.is("height of " + shot, x.shot(shot, 3), shot == 0 ? 1264 : 0);
            due.is("told of " + shot, x.shot(shot, 4), shot == 0 ? 199 : 0);
            due.is("is " + shot + " struck", x.shot(shot, 5), 0);
        }
        due.is("the one that counts may be struck", x.strike(0, true), 0);
        due.is("it is struck", x.shot(0, 5), 1);
        due.is("the last one is not", x.strike(59, true), -4);
    }

    private void placesMoveUp() {
        due.of("a place in the row, from 0");
        CaughtPellets x = Scenes.twentyWait();
        x.unload(80);
        for (int i = 0; i < 20; i++) {
            x.load(100 + i, 300 + i);
        }
        for (int fired = 1; fired <= 20; fired++) {
            x.fire(1, 0);
            due.is("the first place", x.waiting(0, false), fired == 20 ? -5 : 100 + fired);
            due.is("the last place", x.waiting(19 - fired, true), fired == 20 ? -2 : 319);
            due.is("behind the last place", x.waiting(20 - fired, true), -5);
        }
    }
}
