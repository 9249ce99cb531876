/** Promises 2 to 7: block, digOut, cord, set, swing, stop. */
public final class BlockTest {
    private BlockTest() {
    }

    public static void main(String[] args) {
        Due due = new Due();
        blockIsChanged(due);
        blockIsRefused(due);
        pelletsAreDugOut(due);
        cordsAreSet(due);
        lengthThatCountsIsRoundedDown(due);
        cordsAreRefused(due);
        settingsAreSet(due);
        settingsAreRefused(due);
        blockSwings(due);
        rubbingAndLeastHeight(due);
        blockIsStopped(due);
        due.end();
    }

    /** A block that swings with the height 3246. */
    private static CaughtPellets swinging() {
        CaughtPellets x = new CaughtPellets();
        x.load(80, 400);
        x.fire(1, 0);
        return x;
    }

    private static void blockIsChanged(Due due) {
        due.of("`int block(int mass)`: Changes the block for another one, which holds nothing. This is an act.");
        CaughtPellets x = new CaughtPellets();
        Told.fireEach(x, 400, 410);
        due.is("block(9000)", x.block(9000), 2);
        due.is("its mass", x.count(0), 9000);
        due.is("what it holds", x.count(1), 0);
        due.is("its pellets", x.count(2), 0);
        due.is("its whole mass", x.count(3), 90000);
        due.is("dug out with the former one", x.count(12), 160);
        due.is("caught so far", x.count(11), 160);
        due.of("Returns how many pellets the former one held; BAD_VALUE; NOT_POSSIBLE if the block swings.");
        due.is("block(1000)", x.block(1000), 0);
        due.is("the same block again", x.block(1000), 0);
        due.is("its mass", x.count(0), 1000);
        due.is("nothing more is dug out", x.count(12), 160);
        due.is("all of them are acts", x.count(19), 4);
        due.is("undo()", x.undo(), 3);
        due.is("undo()", x.undo(), 2);
        due.is("undo()", x.undo(), 1);
        due.is("pellets are back", x.count(2), 2);
        due.is("what it holds is back", x.count(1), 160);
        due.is("nothing is dug out", x.count(12), 0);
    }

    private static void blockIsRefused(Due due) {
        due.of("- `mass`: 1000 to 9000");
        CaughtPellets x = new CaughtPellets();
        due.is("block(999)", x.block(999), -2);
        due.is("block(9001)", x.block(9001), -2);
        due.is("block(MIN)", x.block(Integer.MIN_VALUE), -2);
        due.is("block(MAX)", x.block(Integer.MAX_VALUE), -2);
        due.same("nothing is changed", Told.everything(x), Told.everything(new CaughtPellets()));
        CaughtPellets y = swinging();
        due.of("NOT_POSSIBLE if the block swings.");
        due.is("block(4000) while it swings", y.block(4000), -4);
        due.is("block(999) while it swings", y.block(999), -2);
        due.same("nothing is changed", Told.everything(y), Told.everything(swinging()));
        y.stop();
        due.is("block(4000) at rest", y.block(4000), 1);
    }

    private static void pelletsAreDugOut(Due due) {
        due.of("Returns how many tenths of grams it held; NOT_POSSIBLE if the block swings; NONE if it holds "
            + "no pellet.");
        CaughtPellets x = new CaughtPellets();
        due.is("digOut() of nothing", x.digOut(), -5);
        due.is("no act", x.count(19), 0);
        Told.fireEach(x, 400);
        x.load(500, 400);
        x.fire(1, 0);
        due.is("digOut() while it swings", x.digOut(), -4);
        due.is("nothing is dug out", x.count(1), 580);
        x.stop();
        due.is("digOut()", x.digOut(), 580);
        due.of("`int digOut()`: Digs all pellets out of the block. This is an act.");
        due.is("what it holds", x.count(1), 0);
        due.is("its pellets", x.count(2), 0);
        due.is("its whole mass", x.count(3), 40000);
        due.is("caught so far", x.count(11), 580);
        due.is("dug out so far", x.count(12), 580);
        due.is("digOut() again", x.digOut(), -5);
        Told.fireEach(x, 400);
        due.is("digOut() of one more", x.digOut(), 80);
        due.is("dug out so far", x.count(12), 660);
        CaughtPellets y = swinging();
        y.stop();
        y.digOut();
        due.is("undo()", y.undo(), 3);
        due.is("what it holds is back", y.count(1), 80);
        y.undo();
        due.is("digOut() of a block that swings, as undo brought it back", y.digOut(), -4);
    }

    private static void cordsAreSet(Due due) {
        due.of("Returns the length that counts then; UNKNOWN; BAD_VALUE; NOT_POSSIBLE if the block swings; "
            + "NONE if it is so already.");
        CaughtPellets x = new CaughtPellets();
        due.is("cord(0, 500)", x.cord(0, 500), 1625);
        due.is("cord(3, 3000)", x.cord(3, 3000), 1875);
        due.of("`int cord(int cord, int length)`: Sets the length of a cord. This is an act.");
        due.is("lengthOf(0)", x.lengthOf(0), 500);
        due.is("lengthOf(1)", x.lengthOf(1), 2000);
        due.is("lengthOf(2)", x.lengthOf(2), 2000);
        due.is("lengthOf(3)", x.lengthOf(3), 3000);
        due.is("undo()", x.undo(), 1);
        due.is("lengthOf(3)", x.lengthOf(3), 2000);
        due.is("cord(1, 2001)", x.cord(1, 2001), 1625);
        due.is("cord(2, 2003)", x.cord(2, 2003), 1626);
    }

    private static void lengthThatCountsIsRoundedDown(Due due) {
        due.of("The length that counts L is the mean of the four, rounded down. The block hangs straight if "
            + "the longest and the shortest cord differ by at most the setting 0.");
        CaughtPellets x = new CaughtPellets();
        due.is("cord(0, 2003)", x.cord(0, 2003), 2000);
        due.is("cord(0, 2004)", x.cord(0, 2004), 2001);
        due.is("it hangs straight", x.count(6), 1);
        due.is("cord(1, 1999)", x.cord(1, 1999), 2000);
        due.of("The settings are (in parentheses: range; first value): 0 how much cords may differ (0 to 50; 5)");
        due.is("5 between the cords", x.count(6), 1);
        due.is("cord(1, 1998)", x.cord(1, 1998), 2000);
        due.is("6 between the cords", x.count(6), 0);
        due.is("set(0, 6)", x.set(0, 6), 5);
        due.is("6 are allowed", x.count(6), 1);
        due.is("cord(1, 2004)", x.cord(1, 2004), 2002);
        due.is("cord(2, 2004)", x.cord(2, 2004), 2003);
        due.is("cord(3, 1998)", x.cord(3, 1998), 2002);
        due.is("the last cord counts, 6", x.count(6), 1);
        due.is("cord(3, 1997)", x.cord(3, 1997), 2002);
        due.is("the last cord counts, 7", x.count(6), 0);
        due.is("cord(3, 2010)", x.cord(3, 2010), 2005);
        due.is("the last cord is the longest, 6", x.count(6), 1);
        due.is("cord(3, 2011)", x.cord(3, 2011), 2005);
        due.is("the last cord is the longest, 7", x.count(6), 0);
        x.cord(3, 2004);
        for (int cord = 0; cord < 4; cord++) {
            x.cord(cord, 1998);
            due.is("6 shorter is cord " + cord, x.count(6), 1);
            x.cord(cord, 1997);
            due.is("7 shorter is cord " + cord, x.count(6), 0);
            x.cord(cord, 2010);
            due.is("6 longer is cord " + cord, x.count(6), 1);
            x.cord(cord, 2011);
            due.is("7 longer is cord " + cord, x.count(6), 0);
            x.cord(cord, 2004);
        }
        x.set(0, 50);
        x.cord(0, 2054);
        due.is("50 between the cords", x.count(6), 1);
        x.set(0, 0);
        due.is("none allowed", x.count(6), 0);
        x.cord(0, 2004);
        x.cord(3, 2004);
        due.is("all are the same", x.count(6), 1);
    }

    private static void cordsAreRefused(Due due) {
        due.of("- `cord`: 0 to 3");
        CaughtPellets x = new CaughtPellets();
        due.is("cord(-1, 2001)", x.cord(-1, 2001), -1);
        due.is("cord(4, 2001)", x.cord(4, 2001), -1);
        due.is("cord(MIN, 0)", x.cord(Integer.MIN_VALUE, 0), -1);
        due.is("cord(4, 499)", x.cord(4, 499), -1);
        due.of("- `length`: 500 to 3000");
        due.is("cord(3, 499)", x.cord(3, 499), -2);
        due.is("cord(3, 3001)", x.cord(3, 3001), -2);
        due.is("cord(0, 2000)", x.cord(0, 2000), -5);
        due.same("nothing is changed", Told.everything(x), Told.everything(new CaughtPellets()));
        CaughtPellets y = swinging();
        due.of("UNKNOWN; BAD_VALUE; NOT_POSSIBLE if the block swings; NONE if it is so already.");
        due.is("cord(4, 499), it swings", y.cord(4, 499), -1);
        due.is("cord(0, 499), it swings", y.cord(0, 499), -2);
        due.is("cord(0, 2000), it swings", y.cord(0, 2000), -4);
        due.is("cord(0, 2001), it swings", y.cord(0, 2001), -4);
        due.same("nothing is changed", Told.everything(y), Told.everything(swinging()));
    }

    private static void settingsAreSet(Due due) {
        due.of("`int set(int which, int value)`: Sets a setting. This is an act.");
        CaughtPellets x = new CaughtPellets();
        int[] first = {5, 20, 10, 10};
        int[] least = {0, 0, 1, 1};
        int[] most = {50, 500, 500, 40};
        for (int which = 0; which < 4; which++) {
            due.is("the least one of " + which, x.set(which, least[which]), first[which]);
            due.is("is told", x.count(15 + which), least[which]);
            due.is("the greatest one of " + which, x.set(which, most[which]), least[which]);
            due.is("is told", x.count(15 + which), most[which]);
            due.is("so it is already", x.set(which, most[which]), -5);
            due.is("undo()", x.undo(), Math.min(3, which + 1));
            due.is("is told", x.count(15 + which), least[which]);
            due.is("the first one of " + which, x.set(which, first[which]), least[which]);
            x.undo();
        }
        CaughtPellets y = swinging();
        due.is("set while it swings", y.set(2, 500), 10);
        due.is("it swings on", y.count(4), 3246);
    }

    private static void settingsAreRefused(Due due) {
        due.of("- `which`: 0 to 3");
        CaughtPellets x = new CaughtPellets();
        due.is("set(-1, 5)", x.set(-1, 5), -2);
        due.is("set(4, 5)", x.set(4, 5), -2);
        due.is("set(MAX, 5)", x.set(Integer.MAX_VALUE, 5), -2);
        int[] least = {0, 0, 1, 1};
        int[] most = {50, 500, 500, 40};
        due.of("- `value`: in its range");
        for (int which = 0; which < 4; which++) {
            due.is("too little for " + which, x.set(which, least[which] - 1), -2);
            due.is("too much for " + which, x.set(which, most[which] + 1), -2);
        }
        due.same("nothing is changed", Told.everything(x), Told.everything(new CaughtPellets()));
    }

    private static void blockSwings(Due due) {
        due.of("Returns the height then; BAD_VALUE; NONE if it is at rest.");
        CaughtPellets x = new CaughtPellets();
        due.is("swing(1) at rest", x.swing(1), -5);
        due.is("swing(0) at rest", x.swing(0), -2);
        due.is("swing(501) at rest", x.swing(501), -2);
        x = swinging();
        due.of("- `halves`: 1 to 500: so many at most");
        due.is("swing(0)", x.swing(0), -2);
        due.is("swing(-1)", x.swing(-1), -2);
        due.is("swing(501)", x.swing(501), -2);
        due.same("nothing is changed", Told.everything(x), Told.everything(swinging()));
        due.of("`int swing(int halves)`: Lets the block do half swings, until it is at rest. This is an act.");
        due.is("swing(1)", x.swing(1), 3181);
        due.is("swing(2)", x.swing(2), 3054);
        due.is("half swings so far", x.count(10), 3);
        due.is("undo()", x.undo(), 3);
        due.is("half swings so far", x.count(10), 1);
        due.is("its height", x.count(4), 3181);
        due.is("swing(500)", x.swing(500), 0);
        due.is("half swings so far", x.count(10), 227);
        due.is("swing(500) at rest", x.swing(500), -5);
        due.is("stop() at rest", x.stop(), -5);
    }

    private static void rubbingAndLeastHeight(Due due) {
        due.of("1 the rubbing, in thousandths of the height lost by each half swing (0 to 500; 20), 2 the "
            + "least height for which a swing goes on, in hundredths of millimetres (1 to 500; 10)");
        CaughtPellets x = swinging();
        x.set(1, 0);
        due.is("without rubbing it is 1 less", x.swing(1), 3245);
        due.is("500 half swings", x.swing(500), 2745);
        x.set(1, 500);
        due.is("half of it, rounded up, is lost", x.swing(1), 1372);
        due.is("half of it is lost", x.swing(1), 686);
        x.set(2, 343);
        due.is("just the least height", x.swing(1), 343);
        due.is("less than it", x.swing(1), 0);
        due.is("half swings so far", x.count(10), 505);
        due.of("A half swing: the height becomes less by height * rubbing / 1000, rounded up, but at least by "
            + "1 if the height is above 0; if it is less than the setting 2 then, the block is at rest, with "
            + "the height 0.");
        CaughtPellets y = swinging();
        y.set(1, 1);
        due.is("4 of 3246 are lost", y.swing(1), 3242);
        y.set(1, 500);
        y.set(2, 1);
        due.is("down to 1", y.swing(11), 1);
        due.is("down to 0", y.swing(1), 0);
        due.is("half swings so far", y.count(10), 13);
    }

    private static void blockIsStopped(Due due) {
        due.of("`int stop()`: Stops the block. This is an act.");
        CaughtPellets x = swinging();
        due.is("stop()", x.stop(), 3246);
        due.is("its height", x.count(4), 0);
        due.is("no half swing", x.count(10), 0);
        due.is("an act", x.count(19), 3);
        due.of("Returns the height that it had; NONE if it is at rest.");
        due.is("stop() again", x.stop(), -5);
        due.is("no act", x.count(19), 3);
        due.is("undo()", x.undo(), 2);
        due.is("its height", x.count(4), 3246);
        due.is("stop()", x.stop(), 3246);
        due.is("what it holds stays", x.count(1), 80);
    }
}
