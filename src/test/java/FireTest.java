/** Promises 11, 23, 25 and 29: fire, shot, would, untilRest. */
public final class FireTest {
    private FireTest() {
    }

    public static void main(String[] args) {
        Due due = new Due();
        shotIsCaught(due);
        heightsAndToldSpeeds(due);
        heightIsAtMostTheLength(due);
        shotWithoutHeight(due);
        shotBelowTheLeastHeight(due);
        reasonsInTheirOrder(due);
        pelletsAreTooMany(due);
        shotsOneAfterTheOther(due);
        halfSwingsBehindShotsThatCount(due);
        fireIsRefused(due);
        atMostSixtyShots(due);
        shotIsTold(due);
        wouldIsRefused(due);
        halfSwingsUntilRest(due);
        due.end();
    }

    private static void shotIsCaught(Due due) {
        CaughtPellets x = new CaughtPellets();
        due.of("`int would(int mass, int speed, int what)`: Tells what a shot would do if it was fired now.");
        due.is("would(80, 400, 2)", x.would(80, 400, 2), 0);
        due.is("would(80, 400, 3)", x.would(80, 400, 3), 3246);
        due.is("would(80, 400, 4)", x.would(80, 400, 4), 399);
        due.same("nothing is changed", Told.everything(x), Told.everything(new CaughtPellets()));
        x.load(80, 400);
        due.of("If it hits at rest, and the block does not hold too many pellets (fewer than the setting 3), "
            + "and hangs straight, it is caught");
        due.is("fire(1, 0)", x.fire(1, 0), 1);
        due.of("the mass of the pellet is added to what the block holds, and its pellets are 1 more.");
        due.is("what it holds", x.count(1), 80);
        due.is("its pellets", x.count(2), 1);
        due.is("its whole mass", x.count(3), 40080);
        due.of("It swings from then on.");
        due.is("its height", x.count(4), 3246);
        due.is("caught so far", x.count(11), 80);
        due.is("shots that wait", x.count(9), 0);
        due.is("shots that were fired", x.count(7), 1);
        due.is("half swings", x.count(10), 0);
        due.is("would(80, 400, 2)", x.would(80, 400, 2), 1);
        due.is("would(80, 400, 3)", x.would(80, 400, 3), 0);
        due.is("would(80, 400, 4)", x.would(80, 400, 4), 0);
        due.of("the block then has the speed u = m * v * 1000 / (M + m) in millimetres per second, rounded "
            + "down, M being ahead of the shot");
        x.stop();
        due.is("would(80, 400, 3), a heavier block", x.would(80, 400, 3), 3230);
        due.is("undo()", x.undo(), 2);
        due.is("undo()", x.undo(), 1);
        due.is("the shot waits again", x.count(9), 1);
        due.is("nothing is fired", x.count(7), 0);
        due.is("nothing is caught", x.count(11), 0);
    }

    private static void heightsAndToldSpeeds(Due due) {
        due.of("The height h in hundredths of millimetres is u * u * 100 / 19613, rounded down (19613 is twice "
            + "the pull, in millimetres by seconds twice), but at most L * 100.");
        int[][] shots = {
            {10, 900, 255, 892}, {2000, 50, 28880, 49}, {100, 100, 316, 99}, {500, 400, 124324, 399},
            {80, 300, 1823, 299}, {80, 410, 3411, 409}, {2000, 900, 200000, 131}, {1000, 300, 200000, 256},
            // The square is met just: 14 of 196, 28 of 784.
            {10, 70, 1, 56}, {10, 120, 4, 112}, {20, 60, 4, 56},
        };
        for (int[] shot : shots) {
            CaughtPellets x = new CaughtPellets();
            String name = shot[0] + " at " + shot[1];
            due.is("would, height " + name, x.would(shot[0], shot[1], 3), shot[2]);
            due.is("would, told " + name, x.would(shot[0], shot[1], 4), shot[3]);
            x.load(shot[0], shot[1]);
            due.is("fire(1, 0) " + name, x.fire(1, 0), 1);
            due.is("height " + name, x.shot(0, 3), shot[2]);
            due.is("told " + name, x.shot(0, 4), shot[3]);
            due.is("block's height " + name, x.count(4), shot[2]);
        }
    }

    private static void heightIsAtMostTheLength(Due due) {
        due.of("but at most L * 100.");
        CaughtPellets x = new CaughtPellets();
        x.block(1000);
        due.is("height of 2000", x.would(2000, 900, 3), 200000);
        due.is("told by 2000", x.would(2000, 900, 4), 37);
        for (int cord = 0; cord < 4; cord++) {
            x.cord(cord, 3000);
        }
        due.is("height of 3000", x.would(2000, 900, 3), 300000);
        due.is("told by 3000", x.would(2000, 900, 4), 46);
        for (int cord = 0; cord < 4; cord++) {
            x.cord(cord, 500);
        }
        due.is("height of 500", x.would(2000, 900, 3), 50000);
        due.is("told by 500", x.would(2000, 900, 4), 18);
        x.cord(0, 503);
        due.is("a length that counts, rounded down", x.would(2000, 900, 3), 50000);
        x.cord(1, 503);
        due.is("a length that counts of 501", x.would(2000, 900, 3), 50100);
    }

    private static void shotWithoutHeight(Due due) {
        due.of("(It swings just if its height is above 0, also if that is less than the setting 2; otherwise "
            + "it is at rest.)");
        CaughtPellets x = new CaughtPellets();
        x.load(10, 50);
        x.load(10, 50);
        due.is("fire(2, 7)", x.fire(2, 7), 2);
        due.is("both count", x.count(8), 0);
        due.is("first height", x.shot(0, 3), 0);
        due.is("told", x.shot(0, 4), 0);
        due.is("it is at rest", x.count(4), 0);
        due.is("no half swing", x.count(10), 0);
        due.is("untilRest()", x.untilRest(), -5);
        due.is("both are held", x.count(1), 20);
        due.is("pellets", x.count(2), 2);
        due.is("both are of the series", x.series(0), 2);
        due.is("its mean", x.series(1), 0);
    }

    private static void shotBelowTheLeastHeight(Due due) {
        due.of("A pellet has a mass m in tenths of grams (10 to 2000) and a speed v in metres per second (50 "
            + "to 900). It hits the block at rest, or while it swings.");
        CaughtPellets x = new CaughtPellets();
        x.load(10, 90);
        x.load(10, 90);
        due.is("it swings just a little", x.fire(1, 0), 1);
        due.is("its height is less than the setting 2", x.count(4), 2);
        due.is("untilRest()", x.untilRest(), 1);
        due.is("the next one glances off", x.fire(1, 0), 0);
        due.is("its reason", x.shot(1, 2), 1);
        due.is("swing(5)", x.swing(5), 0);
        due.is("one half swing", x.count(10), 1);
    }

    private static void reasonsInTheirOrder(Due due) {
        CaughtPellets x = new CaughtPellets();
        x.set(3, 1);
        x.load(80, 400);
        x.fire(1, 0);
        due.of("The reasons for which a shot does not count are asked in this order: 1 the block swings; 2 it "
            + "does not hang straight; 3 it holds as many pellets as the setting 3 tells or more; 0 it counts.");
        due.is("it swings and holds too many", x.would(80, 400, 2), 1);
        x.stop();
        due.is("it holds too many", x.would(80, 400, 2), 3);
        x.cord(0, 2006);
        due.is("it is not straight and holds too many", x.would(80, 400, 2), 2);
        x.digOut();
        due.is("it is not straight", x.would(80, 400, 2), 2);
        due.is("no height", x.would(80, 400, 3), 0);
        due.is("no told speed", x.would(80, 400, 4), 0);
        due.of("A shot that does not count is fired all the same, but nothing of it is caught.");
        x.load(80, 400);
        due.is("fire(1, 5)", x.fire(1, 5), 0);
        due.is("its reason", x.shot(1, 2), 2);
        due.is("its mass", x.shot(1, 0), 80);
        due.is("its speed", x.shot(1, 1), 400);
        due.is("its first height", x.shot(1, 3), 0);
        due.is("its told speed", x.shot(1, 4), 0);
        due.is("it is not struck", x.shot(1, 5), 0);
        due.is("it is not bad", x.shot(1, 6), 0);
        due.is("the block ahead of it", x.shot(1, 7), 40000);
        due.is("nothing is caught of it", x.count(11), 80);
        due.is("nothing is held", x.count(1), 0);
        due.is("no pellet is held", x.count(2), 0);
        due.is("it is at rest", x.count(4), 0);
        due.is("no half swing", x.count(10), 0);
        due.is("one does not count", x.count(8), 1);
        x.forget();
        x.load(80, 400);
        x.fire(1, 0);
        due.is("the first one does not count", x.count(8), 1);
        x.cord(0, 2005);
        due.is("it is straight", x.would(80, 400, 2), 0);
        x.set(0, 4);
        due.is("it is not, by the setting 0", x.would(80, 400, 2), 2);
    }

    private static void pelletsAreTooMany(Due due) {
        due.of("3 the most pellets that a block holds before it is dug out (1 to 40; 10)");
        CaughtPellets x = new CaughtPellets();
        x.set(3, 2);
        for (int i = 0; i < 3; i++) {
            x.load(80, 400);
        }
        due.is("two are caught", x.fire(3, 500), 2);
        due.is("the third is not", x.shot(2, 2), 3);
        due.is("pellets", x.count(2), 2);
        due.is("what it holds", x.count(1), 160);
        x.set(3, 1);
        due.is("it holds more than it may", x.would(80, 400, 2), 3);
        x.set(3, 3);
        due.is("it may hold one more", x.would(80, 400, 2), 0);
        x.set(3, 2);
        x.block(4000);
        due.is("another block", x.would(80, 400, 2), 0);
        CaughtPellets y = new CaughtPellets();
        y.set(3, 40);
        for (int i = 0; i < 20; i++) {
            y.load(2000, 900);
        }
        due.is("20", y.fire(20, 500), 20);
        Told.write(y, "200@900x9;200@900x9;200@900x2");
        y.loadAll();
        due.is("20 more", y.fire(20, 500), 20);
        due.is("pellets", y.count(2), 40);
        due.is("its whole mass", y.count(3), 120000);
        due.is("a full block", y.would(80, 400, 2), 3);
    }

    private static void shotsOneAfterTheOther(Due due) {
        CaughtPellets x = new CaughtPellets();
        x.load(80, 400);
        x.load(90, 410);
        x.load(100, 420);
        due.of("Returns how many of them count;");
        due.is("fire(2, 0)", x.fire(2, 0), 1);
        due.of("`int fire(int shots, int halves)`: Fires the first shots of the row. This is an act.");
        due.is("the first one counts", x.shot(0, 2), 0);
        due.is("the second one comes while it swings", x.shot(1, 2), 1);
        due.is("the block ahead of the second one", x.shot(1, 7), 40080);
        due.of("To fire the first one fires it at once; behind each shot that counts so many half swings "
            + "follow as are told (none more once it is at rest).");
        due.is("it swings as before", x.count(4), 3246);
        due.is("one waits", x.count(9), 1);
        due.is("it is the third one", x.waiting(0, false), 100);
        x.stop();
        due.of("- `shots`: 1 to 20: so many, or as many as wait");
        due.is("more than wait", x.fire(20, 500), 1);
        due.is("its mass", x.shot(2, 0), 100);
        due.is("its speed", x.shot(2, 1), 420);
        due.is("the block ahead of it", x.shot(2, 7), 40080);
        due.is("what it holds", x.count(1), 180);
        due.is("one does not count", x.count(8), 1);
        due.is("none waits", x.fire(1, 0), -5);
    }

    private static void halfSwingsBehindShotsThatCount(Due due) {
        due.of("- `halves`: 0 to 500: the half swings behind each shot that counts");
        CaughtPellets x = new CaughtPellets();
        x.load(80, 400);
        x.load(80, 400);
        due.is("fire(2, 5)", x.fire(2, 5), 1);
        due.is("5 behind the first one, none behind the other", x.count(10), 5);
        due.is("its height", x.count(4), 2932);
        due.is("undo()", x.undo(), 2);
        due.is("no half swings", x.count(10), 0);
        due.is("fire(2, 500)", x.fire(2, 500), 2);
        due.is("until rest, twice", x.count(10), 227 + 227);
        due.is("it is at rest", x.count(4), 0);
        CaughtPellets y = new CaughtPellets();
        y.load(80, 400);
        y.load(80, 400);
        due.is("fire(2, 227)", y.fire(2, 227), 2);
        due.is("undo()", y.undo(), 2);
        due.is("fire(2, 226)", y.fire(2, 226), 1);
    }

    private static void fireIsRefused(Due due) {
        CaughtPellets x = new CaughtPellets();
        due.is("fire(1, 0)", x.fire(1, 0), -5);
        due.of("Returns how many of them count; BAD_VALUE; FULL if, by those that would be fired now, more "
            + "than 60 would have been fired; NONE if none waits.");
        due.is("fire(0, 0)", x.fire(0, 0), -2);
        due.is("fire(21, 0)", x.fire(21, 0), -2);
        due.is("fire(1, -1)", x.fire(1, -1), -2);
        due.is("fire(1, 501)", x.fire(1, 501), -2);
        due.same("nothing is changed", Told.everything(x), Told.everything(new CaughtPellets()));
        x.load(80, 400);
        due.is("fire(0, 0)", x.fire(0, 0), -2);
        due.is("fire(MIN, 0)", x.fire(Integer.MIN_VALUE, 0), -2);
        due.is("fire(MAX, 0)", x.fire(Integer.MAX_VALUE, 0), -2);
        due.is("fire(1, 501)", x.fire(1, 501), -2);
        due.is("fire(20, 500)", x.fire(20, 500), 1);
    }

    private static void atMostSixtyShots(Due due) {
        due.of("Shots that were fired are numbered from 0 in their order (at most 60)");
        CaughtPellets x = new CaughtPellets();
        for (int round = 0; round < 3; round++) {
            due.is("room", x.count(7), 20 * round - (round == 2 ? 1 : 0));
            for (int i = 0; i < 20; i++) {
                x.load(80, 400);
            }
            x.fire(round == 1 ? 19 : 20, 0);
        }
        due.is("59 are fired", x.count(7), 59);
        x.load(80, 400);
        x.load(90, 410);
        due.is("two are too many", x.fire(2, 0), -3);
        due.is("20 are too many", x.fire(20, 0), -3);
        due.is("bad values are asked first", x.fire(20, 501), -2);
        due.is("both wait", x.count(9), 2);
        due.is("there is room for one", x.fire(1, 0), 0);
        due.is("60 are fired", x.count(7), 60);
        due.is("no room", x.fire(1, 0), -3);
        due.is("the last one", x.shot(59, 0), 80);
        due.is("shot(60, 0)", x.shot(60, 0), -1);
        x.unload(2000);
        due.is("none waits", x.fire(20, 0), -5);
        due.is("forget()", x.forget(), 60);
        x.load(90, 410);
        due.is("there is room", x.fire(1, 0), 0);
    }

    private static void shotIsTold(Due due) {
        due.of("`int shot(int shot, int what)`: - `shot`: a shot that was fired");
        CaughtPellets x = new CaughtPellets();
        due.is("shot(0, 0) of none", x.shot(0, 0), -1);
        Told.fireEach(x, 400, 410);
        due.of("- `what`: 0 for its mass, 1 for its speed, 2 for the reason, 3 for its first height, 4 for its "
            + "told speed, 5 for whether it is struck (1, otherwise 0), 6 for whether it is bad (1, otherwise "
            + "0), 7 for the whole mass of the block ahead of it, in tenths");
        int[] told = {80, 410, 0, 3394, 409, 0, 0, 40080};
        for (int what = 0; what < told.length; what++) {
            due.is("shot(1, " + what + ")", x.shot(1, what), told[what]);
        }
        due.is("shot(0, 7)", x.shot(0, 7), 40000);
        due.of("Returns the number; UNKNOWN; BAD_VALUE.");
        due.is("shot(1, 8)", x.shot(1, 8), -2);
        due.is("shot(1, -1)", x.shot(1, -1), -2);
        due.is("shot(-1, 0)", x.shot(-1, 0), -1);
        due.is("shot(2, 0)", x.shot(2, 0), -1);
        due.is("shot(2, 8)", x.shot(2, 8), -1);
        due.is("shot(MAX, MAX)", x.shot(Integer.MAX_VALUE, Integer.MAX_VALUE), -1);
        due.is("shot(MIN, MIN)", x.shot(Integer.MIN_VALUE, Integer.MIN_VALUE), -1);
    }

    private static void wouldIsRefused(Due due) {
        due.of("- `mass`: 10 to 2000");
        CaughtPellets x = new CaughtPellets();
        due.is("would(9, 400, 2)", x.would(9, 400, 2), -2);
        due.is("would(2001, 400, 2)", x.would(2001, 400, 2), -2);
        due.of("- `speed`: 50 to 900");
        due.is("would(80, 49, 2)", x.would(80, 49, 2), -2);
        due.is("would(80, 901, 2)", x.would(80, 901, 2), -2);
        due.of("- `what`: 2 for the reason, 3 for the first height, 4 for the told speed");
        due.is("would(80, 400, 1)", x.would(80, 400, 1), -2);
        due.is("would(80, 400, 5)", x.would(80, 400, 5), -2);
        due.is("would(80, 400, MIN)", x.would(80, 400, Integer.MIN_VALUE), -2);
        due.of("Returns the number (0 for 3 and 4 if it would not count); BAD_VALUE.");
        due.is("would(10, 50, 2)", x.would(10, 50, 2), 0);
        due.is("would(2000, 900, 2)", x.would(2000, 900, 2), 0);
    }

    private static int untilRest(int rubbing, int least) {
        CaughtPellets x = new CaughtPellets();
        x.set(1, rubbing);
        x.set(2, least);
        x.load(80, 400);
        x.fire(1, 0);
        return x.untilRest();
    }

    private static void halfSwingsUntilRest(Due due) {
        due.of("`int untilRest()`: Tells how many half swings it takes until the block is at rest.");
        due.is("rubbing 20, least 10", untilRest(20, 10), 227);
        due.is("rubbing 20, least 500", untilRest(20, 500), 91);
        due.is("rubbing 500, least 1", untilRest(500, 1), 12);
        due.is("rubbing 500, least 500", untilRest(500, 500), 3);
        due.is("rubbing 1, least 1", untilRest(1, 1), 1894);
        due.is("rubbing 0, least 1", untilRest(0, 1), 3246);
        due.is("rubbing 0, least 10", untilRest(0, 10), 3237);
        CaughtPellets x = new CaughtPellets();
        due.of("Returns how many; NONE if it is at rest.");
        due.is("untilRest() at rest", x.untilRest(), -5);
        x.set(1, 0);
        x.load(10, 900);
        x.fire(1, 0);
        due.is("untilRest() of 255", x.untilRest(), 246);
        x.set(2, 255);
        due.is("just the least height", x.untilRest(), 1);
        x.set(2, 254);
        due.is("1 more than the least height", x.untilRest(), 2);
        x.set(2, 500);
        due.is("less than the least height", x.untilRest(), 1);
        due.is("it tells only", x.count(4), 255);
        due.is("no half swing is done", x.count(10), 0);
        due.is("swing(1)", x.swing(1), 0);
        due.is("untilRest() at rest", x.untilRest(), -5);
    }
}
