/** Promises 12 to 15 and 27: strike, clean, forget, setLimit, series. */
public final class SeriesTest {
    private SeriesTest() {
    }

    public static void main(String[] args) {
        Due due = new Due();
        seriesIsTold(due);
        seriesWithoutShots(due);
        shotsOutsideTheSeries(due);
        badShotsByTheLimit(due);
        shotsAreStruck(due);
        strikeIsRefused(due);
        seriesIsCleaned(due);
        worstIsTheFirstOfSeveral(due);
        cleaningReckonsAnew(due);
        shotsAreForgotten(due);
        limitIsSet(due);
        due.end();
    }

    private static CaughtPellets fired(int... speeds) {
        CaughtPellets x = new CaughtPellets();
        Told.fireEach(x, speeds);
        return x;
    }

    private static void seriesIsTold(Due due) {
        due.of("`int series(int what)`: - `what`: 0 for its shots, 1 for its mean (NONE without shots), 2 for "
            + "its spread (0 without shots), 3 for bad shots, 4 for its first shot (NONE without one), 5 for "
            + "the shot that is nearest to the mean (of several the first one; NONE without shots), 6 for "
            + "standards that it meets (a set, as bits)");
        CaughtPellets x = fired(400, 410, 300);
        due.is("its shots", x.series(0), 3);
        due.is("its mean", x.series(1), 369);
        due.is("its spread", x.series(2), 110);
        due.is("bad shots", x.series(3), 2);
        due.is("its first shot", x.series(4), 0);
        due.is("the nearest", x.series(5), 0);
        due.is("standards that it meets", x.series(6), 0);
        due.of("Returns the number; BAD_VALUE.");
        due.is("series(-1)", x.series(-1), -2);
        due.is("series(7)", x.series(7), -2);
        due.is("series(MAX)", x.series(Integer.MAX_VALUE), -2);
        due.of("5 for the shot that is nearest to the mean (of several the first one; NONE without shots)");
        due.is("the nearest is behind others", fired(300, 400, 500).series(5), 1);
        due.is("of several the first one", fired(300, 420, 380).series(5), 2);
        due.is("of several the first one", fired(400, 400, 400, 440).series(5), 0);
        due.is("of several the first one, above", fired(430, 370).series(5), 0);
        due.is("of several the first one, below", fired(370, 430).series(5), 0);
        due.of("Its mean is the mean of their told speeds, rounded down; its spread the greatest less the least.");
        due.is("a mean that is rounded down", fired(400, 400, 401).series(1), 399);
        due.is("spread of one", fired(400).series(2), 0);
        due.is("spread, the least one last", fired(450, 410, 400).series(2), 50);
    }

    private static void seriesWithoutShots(Due due) {
        due.of("2 for its spread (0 without shots)");
        CaughtPellets x = new CaughtPellets();
        int[] told = {0, -5, 0, 0, -5, -5, 0};
        for (int what = 0; what < told.length; what++) {
            due.is("series(" + what + ")", x.series(what), told[what]);
        }
        Told.fireEach(x, 400);
        x.strike(0, true);
        for (int what = 0; what < told.length; what++) {
            due.is("series(" + what + "), one is struck", x.series(what), told[what]);
        }
    }

    private static void shotsOutsideTheSeries(Due due) {
        due.of("A series is all shots that count and are not struck.");
        CaughtPellets x = new CaughtPellets();
        x.cord(0, 2100);
        Told.fireEach(x, 400, 401);
        x.cord(0, 2000);
        Told.fireEach(x, 300, 400, 500);
        due.is("its shots", x.series(0), 3);
        due.is("its mean", x.series(1), 399);
        due.is("its spread", x.series(2), 200);
        due.is("bad shots", x.series(3), 2);
        due.is("its first shot", x.series(4), 2);
        due.is("the nearest", x.series(5), 3);
        due.is("is a shot that does not count bad", x.shot(0, 6), 0);
        due.is("a bad one", x.shot(2, 6), 1);
        due.is("not a bad one", x.shot(3, 6), 0);
        x.strike(2, true);
        due.is("its first shot", x.series(4), 3);
        due.is("its mean", x.series(1), 449);
        due.is("its spread", x.series(2), 100);
        due.is("is a struck shot bad", x.shot(2, 6), 0);
        x.strike(3, true);
        due.is("its first shot", x.series(4), 4);
        due.is("the nearest", x.series(5), 4);
        due.is("its mean", x.series(1), 499);
    }

    private static void badShotsByTheLimit(Due due) {
        due.of("A shot of the series is bad if its told speed differs from the mean by more than the limit (1 "
            + "to 200; 30 at first).");
        CaughtPellets x = fired(400, 410, 300);
        due.is("30 from the mean", x.shot(0, 6), 0);
        due.is("40 from the mean", x.shot(1, 6), 1);
        due.is("70 from the mean", x.shot(2, 6), 1);
        x.setLimit(29);
        due.is("30 from the mean, limit 29", x.shot(0, 6), 1);
        due.is("bad shots, limit 29", x.series(3), 3);
        x.setLimit(40);
        due.is("40 from the mean, limit 40", x.shot(1, 6), 0);
        x.setLimit(39);
        due.is("40 from the mean, limit 39", x.shot(1, 6), 1);
        x.setLimit(70);
        due.is("bad shots, limit 70", x.series(3), 0);
        x.setLimit(69);
        due.is("bad shots, limit 69", x.series(3), 1);
    }

    private static void shotsAreStruck(Due due) {
        due.of("- `struck`: whether it is struck then");
        CaughtPellets x = fired(400, 410, 300);
        due.is("strike(2, true)", x.strike(2, true), 2);
        due.is("it is struck", x.shot(2, 5), 1);
        due.is("its mean", x.series(1), 404);
        due.is("it keeps its told speed", x.shot(2, 4), 299);
        due.of("Returns how many shots the series has then; UNKNOWN; NOT_POSSIBLE if it does not count; NONE "
            + "if it is so already.");
        due.is("strike(0, true)", x.strike(0, true), 1);
        due.is("strike(2, false)", x.strike(2, false), 2);
        due.of("`int strike(int shot, boolean struck)`: Strikes a shot, or takes that back. This is an act.");
        due.is("it is not struck", x.shot(2, 5), 0);
        due.is("its mean", x.series(1), 354);
        due.is("shots that do not count", x.count(8), 0);
        due.is("undo()", x.undo(), 3);
        due.is("it is struck again", x.shot(2, 5), 1);
    }

    private static void strikeIsRefused(Due due) {
        due.of("- `shot`: a shot that was fired");
        CaughtPellets x = new CaughtPellets();
        due.is("strike(0, true) of none", x.strike(0, true), -1);
        x.load(80, 400);
        x.load(80, 400);
        x.fire(2, 0);
        due.is("strike(-1, true)", x.strike(-1, true), -1);
        due.is("strike(2, true)", x.strike(2, true), -1);
        due.is("strike(MAX, true)", x.strike(Integer.MAX_VALUE, true), -1);
        due.of("NOT_POSSIBLE if it does not count; NONE if it is so already.");
        due.is("it does not count", x.strike(1, true), -4);
        due.is("it does not count", x.strike(1, false), -4);
        due.is("so it is already", x.strike(0, false), -5);
        due.is("no act", x.count(19), 3);
        due.is("not struck", x.shot(1, 5), 0);
        due.is("strike(0, true)", x.strike(0, true), 0);
        due.is("so it is already", x.strike(0, true), -5);
    }

    private static void seriesIsCleaned(Due due) {
        due.of("Returns how many shots are struck by that; NONE if none is bad.");
        CaughtPellets x = new CaughtPellets();
        due.is("clean() of none", x.clean(), -5);
        Told.fireEach(x, 400, 430, 370);
        due.is("clean(), none is bad", x.clean(), -5);
        Told.fireEach(x, 500);
        due.is("its mean", x.series(1), 424);
        due.is("clean()", x.clean(), 1);
        due.of("`int clean()`: Cleans the series. This is an act.");
        due.is("the worst one is struck", x.shot(3, 5), 1);
        due.is("no other one", x.series(0), 3);
        due.is("clean() again", x.clean(), -5);
        due.is("undo()", x.undo(), 3);
        due.is("its shots", x.series(0), 4);
        due.is("not struck", x.shot(3, 5), 0);
        x.setLimit(200);
        due.is("a limit that allows it", x.clean(), -5);
    }

    private static void worstIsTheFirstOfSeveral(Due due) {
        due.of("the worst one (the greatest difference, of several the first one) is struck");
        CaughtPellets x = fired(400, 470, 330);
        x.setLimit(60);
        due.is("clean()", x.clean(), 1);
        due.is("the first of two", x.shot(1, 5), 1);
        due.is("not the other", x.shot(2, 5), 0);
        CaughtPellets y = fired(400, 402, 401, 340, 462);
        y.setLimit(60);
        due.is("clean()", y.clean(), 1);
        due.is("the first of two", y.shot(3, 5), 1);
        due.is("not the other", y.shot(4, 5), 0);
    }

    private static void cleaningReckonsAnew(Due due) {
        due.of("To clean: as long as any is bad, the worst one (the greatest difference, of several the first "
            + "one) is struck, and all is reckoned anew.");
        CaughtPellets x = fired(400, 402, 401, 340, 462);
        due.is("bad shots", x.series(3), 2);
        due.is("clean()", x.clean(), 2);
        due.is("its shots", x.series(0), 3);
        due.is("its mean", x.series(1), 400);
        due.is("one undo", x.undo(), 3);
        due.is("its shots", x.series(0), 5);
        CaughtPellets y = fired(100, 200, 300, 400, 500, 600, 700, 800, 900);
        y.setLimit(1);
        // The least and the greatest are as far from the mean each time: the least is the first.
        due.is("clean() leaves one", y.clean(), 8);
        due.is("its shots", y.series(0), 1);
        due.is("which one it leaves", y.series(4), 8);
        // 299, 399, 499: none is bad by 100, all but one by 99, then the other two by 50.
        CaughtPellets z = fired(300, 400, 500);
        z.setLimit(100);
        due.is("none is bad", z.clean(), -5);
        z.setLimit(99);
        due.is("the first of two, then none", z.clean(), 1);
        due.is("struck", z.shot(0, 5), 1);
        z.setLimit(49);
        due.is("the first of two again", z.clean(), 1);
        due.is("what is left", z.series(4), 2);
    }

    private static void shotsAreForgotten(Due due) {
        due.of("Returns how many they were; NONE if there is none.");
        CaughtPellets x = new CaughtPellets();
        due.is("forget() of none", x.forget(), -5);
        due.is("no act", x.count(19), 0);
        x.load(80, 400);
        x.load(80, 410);
        x.load(80, 420);
        x.fire(2, 3);
        x.strike(0, true);
        due.is("forget()", x.forget(), 2);
        due.of("`int forget()`: Forgets all shots that were fired. This is an act.");
        due.is("shots that were fired", x.count(7), 0);
        due.is("those that do not count", x.count(8), 0);
        due.is("the series", x.series(0), 0);
        due.is("shot(0, 0)", x.shot(0, 0), -1);
        due.is("the block holds on", x.count(1), 80);
        due.is("caught so far", x.count(11), 80);
        due.is("half swings so far", x.count(10), 3);
        due.is("one waits", x.count(9), 1);
        due.is("forget() again", x.forget(), -5);
        x.stop();
        x.fire(1, 0);
        due.is("a new shot has the number 0", x.shot(0, 1), 420);
        due.is("and is not struck", x.shot(0, 5), 0);
        x.undo();
        x.undo();
        due.is("undo()", x.undo(), 1);
        due.is("they are back", x.count(7), 2);
        due.is("struck as before", x.shot(0, 5), 1);
    }

    private static void limitIsSet(Due due) {
        due.of("- `limit`: 1 to 200");
        CaughtPellets x = new CaughtPellets();
        due.is("setLimit(30)", x.setLimit(30), -5);
        due.is("setLimit(0)", x.setLimit(0), -2);
        due.is("setLimit(201)", x.setLimit(201), -2);
        due.is("setLimit(MIN)", x.setLimit(Integer.MIN_VALUE), -2);
        due.is("no act", x.count(19), 0);
        due.of("`int setLimit(int limit)`: Sets the limit. This is an act.");
        due.is("setLimit(1)", x.setLimit(1), 30);
        due.of("Returns the previous one; BAD_VALUE; NONE if it is so already.");
        due.is("setLimit(200)", x.setLimit(200), 1);
        due.is("count(14)", x.count(14), 200);
        due.is("setLimit(200)", x.setLimit(200), -5);
        due.is("undo()", x.undo(), 1);
        due.is("count(14)", x.count(14), 1);
    }
}
