/** Bounds of THE BLOCK and of the promises 1 to 7; the ranges of arguments are in RangeTest. */
public final class BlockBoundsTest {
    private final Due due = new Due();

    private BlockBoundsTest() {
    }

    public static void main(String[] args) {
        BlockBoundsTest test = new BlockBoundsTest();
        test.everythingIsEmptyAtFirst();
        test.wholeMassOfEmptyAndFullBlocks();
        test.whatItHoldsIsToldInTenths();
        test.lengthThatCountsIsRoundedDown();
        test.straightUpToTheSetting();
        test.blocksOfNoneAndOfManyPellets();
        test.blockIsChangedJustAtRest();
        test.diggingOutOneAndMany();
        test.leastAndGreatestLengths();
        test.settingsJustInside();
        test.swingsSoManyAtMost();
        test.swingsThatEndTooEarly();
        test.stopsFromAnyHeight();
        test.due.end();
    }

    private void everythingIsEmptyAtFirst() {
        CaughtPellets x = new CaughtPellets();
        due.of("Creates a block at rest.");
        due.is("its height", x.count(4), 0);
        due.is("untilRest()", x.untilRest(), -5);
        due.of("The block has a mass (1000 to 9000 grams; 4000 at first)");
        due.is("its mass", x.count(0), 4000);
        due.of("and holds so many grams of pellets (0 at first)");
        due.is("what it holds", x.count(1), 0);
        due.is("its pellets", x.count(2), 0);
        due.of("each with a length (500 to 3000 millimetres; 2000 at first)");
        for (int cord = 0; cord < 4; cord++) {
            due.is("lengthOf(" + cord + ")", x.lengthOf(cord), 2000);
        }
        due.of("The settings are (in parentheses: range; first value)");
        int[] first = {5, 20, 10, 10};
        for (int which = 0; which < 4; which++) {
            due.is("setting " + which, x.count(15 + which), first[which]);
        }
        due.of("the limit (1 to 200; 30 at first)");
        due.is("the limit", x.count(14), 30);
        due.of("There is a text of at most 60 characters, empty at first.");
        due.is("the text", x.count(20), 0);
        due.is("loadAll()", x.loadAll(), -100);
        due.of("There is one snapshot, empty at first.");
        due.is("restore()", x.restore(), -5);
        due.of("A history of at most 4 states is kept");
        due.is("states", x.count(19), 0);
        due.is("undo()", x.undo(), -5);
    }

    private void wholeMassOfEmptyAndFullBlocks() {
        due.of("its whole mass in tenths M is 10 times its mass, plus what it holds");
        CaughtPellets x = new CaughtPellets();
        x.block(1000);
        due.is("the lightest, empty", x.count(3), 10000);
        x.load(10, 50);
        x.fire(1, 0);
        due.is("the lightest, with the lightest pellet", x.count(3), 10010);
        x.stop();
        x.block(9000);
        due.is("the heaviest, empty", x.count(3), 90000);
        x.set(3, 40);
        for (int round = 0; round < 2; round++) {
            Scenes.loadText(x, "200@900x9;200@900x9;200@900x2");
            due.is("20 are caught", x.fire(20, 500), 20);
        }
        due.is("the heaviest, full of the heaviest pellets", x.count(3), 170000);
        due.is("what it holds", x.count(1), 80000);
        due.is("the block ahead of the last one", x.shot(40, 7), 168000);
        due.is("digOut()", x.digOut(), 80000);
        due.is("the heaviest, dug out", x.count(3), 90000);
    }

    private void whatItHoldsIsToldInTenths() {
        due.of("and holds so many grams of pellets (0 at first), a tenth of a gram as the unit");
        CaughtPellets x = new CaughtPellets();
        Scenes.loadText(x, "7.5@420;0.9@420");
        due.is("a fault loads nothing", x.count(9), 0);
        Scenes.loadText(x, "7.5@420;1.1@420");
        due.is("fire(2, 500)", x.fire(2, 500), 2);
        due.is("7.5 and 1.1 grams", x.count(1), 86);
        due.is("the whole mass", x.count(3), 40086);
        due.is("digOut()", x.digOut(), 86);
    }

    private void lengthThatCountsIsRoundedDown() {
        due.of("The length that counts L is the mean of the four, rounded down.");
        int[][] lengths = {
            {500, 500, 500, 500, 500}, {501, 500, 500, 500, 500}, {501, 501, 500, 500, 500},
            {501, 501, 501, 500, 500}, {501, 501, 501, 501, 501}, {503, 500, 500, 500, 500},
            {504, 500, 500, 500, 501}, {3000, 3000, 3000, 3000, 3000}, {3000, 3000, 3000, 2999, 2999},
            {3000, 3000, 3000, 2996, 2999}, {3000, 3000, 3000, 2995, 2998}, {500, 3000, 500, 3000, 1750},
            {500, 3000, 501, 3000, 1750}, {500, 3000, 504, 3000, 1751},
        };
        for (int[] of : lengths) {
            CaughtPellets x = withCords(of);
            due.is("the mean of " + of[0] + ", " + of[1] + ", " + of[2] + ", " + of[3], x.count(5), of[4]);
            int other = of[3] == 3000 ? 2999 : 3000;
            x.cord(3, other);
            due.is("cord() answers it", x.cord(3, of[3]), of[4]);
        }
    }

    private static CaughtPellets withCords(int[] lengths) {
        CaughtPellets x = new CaughtPellets();
        for (int cord = 0; cord < 4; cord++) {
            x.cord(cord, lengths[cord]);
        }
        return x;
    }

    private void straightUpToTheSetting() {
        due.of("The block hangs straight if the longest and the shortest cord differ by at most the setting 0.");
        for (int setting : new int[] {0, 1, 5, 49, 50}) {
            for (int longest = 0; longest < 4; longest++) {
                for (int shortest = 0; shortest < 4; shortest++) {
                    if (longest != shortest) {
                        straight(setting, longest, shortest);
                    }
                }
            }
        }
    }

    private void straight(int setting, int longest, int shortest) {
        CaughtPellets x = new CaughtPellets();
        x.set(0, setting);
        String name = longest + " is longer than " + shortest + " by ";
        int half = setting / 2;
        x.cord(shortest, 2000 - half);
        x.cord(longest, 2000 - half + setting);
        due.is(name + setting, x.count(6), 1);
        due.is("would, " + name + setting, x.would(80, 400, 2), 0);
        x.cord(longest, 2001 - half + setting);
        due.is(name + (setting + 1), x.count(6), 0);
        due.is("would, " + name + (setting + 1), x.would(80, 400, 2), 2);
        x.cord(longest, 2000 - half + setting);
        due.is(name + setting + " again", x.count(6), 1);
        x.cord(shortest, 1999 - half);
        due.is(name + (setting + 1) + ", shorter", x.count(6), 0);
    }

    private void blocksOfNoneAndOfManyPellets() {
        due.of("Changes the block for another one, which holds nothing.");
        CaughtPellets x = new CaughtPellets();
        due.is("a former one that held none", x.block(1000), 0);
        due.is("the same again is an act", x.block(1000), 0);
        due.is("states", x.count(19), 2);
        x.load(10, 50);
        x.fire(1, 500);
        due.is("a former one that held one", x.block(9000), 1);
        due.is("dug out so far", x.count(12), 10);
        CaughtPellets y = Scenes.fullBlock();
        due.is("a former one that held 40", y.block(4000), 40);
        due.is("what it holds", y.count(1), 0);
        due.is("its pellets", y.count(2), 0);
        due.is("dug out so far", y.count(12), 80000);
        due.is("caught so far", y.count(11), 80000);
        due.is("a shot counts again", y.would(80, 400, 2), 0);
        due.is("the shots stay", y.count(7), 40);
        due.is("cords and settings stay", y.count(18), 40);
        due.is("it held none", y.block(4000), 0);
        due.is("dug out so far", y.count(12), 80000);
    }

    private void blockIsChangedJustAtRest() {
        due.of("BAD_VALUE; NOT_POSSIBLE if the block swings.");
        CaughtPellets x = Scenes.atHeight(1);
        due.is("block(4000), it swings by 1", x.block(4000), -4);
        due.is("swing(1)", x.swing(1), 0);
        due.is("block(4000), at rest", x.block(4000), 1);
        CaughtPellets y = new CaughtPellets();
        y.load(10, 50);
        y.fire(1, 0);
        due.is("block(4000) behind a shot without height", y.block(4000), 1);
        CaughtPellets z = Scenes.swinging();
        z.stop();
        due.is("cord(0, 2001) at rest", z.cord(0, 2001), 2000);
        due.is("digOut() at rest", z.digOut(), 80);
        due.is("undo()", z.undo(), 3);
        due.is("undo()", z.undo(), 2);
        due.is("undo(): it swings again", z.undo(), 1);
        due.is("block(4000)", z.block(4000), -4);
        due.is("digOut()", z.digOut(), -4);
        due.is("cord(0, 2001)", z.cord(0, 2001), -4);
    }

    private void diggingOutOneAndMany() {
        due.of("NOT_POSSIBLE if the block swings; NONE if it holds no pellet.");
        CaughtPellets x = new CaughtPellets();
        due.is("no pellet", x.digOut(), -5);
        x.load(10, 50);
        x.fire(1, 0);
        due.is("the lightest pellet", x.digOut(), 10);
        due.is("no pellet", x.digOut(), -5);
        due.is("dug out so far", x.count(12), 10);
        CaughtPellets y = Scenes.fullBlock();
        due.is("40 of the heaviest", y.digOut(), 80000);
        due.is("its pellets", y.count(2), 0);
        due.is("its mass stays", y.count(0), 4000);
        due.is("a shot counts again", y.would(80, 400, 2), 0);
        due.is("dug out so far", y.count(12), 80000);
    }

    private void leastAndGreatestLengths() {
        due.of("the length that counts then; UNKNOWN; BAD_VALUE; NOT_POSSIBLE if the block swings;");
        for (int cord = 0; cord < 4; cord++) {
            CaughtPellets x = new CaughtPellets();
            due.is("the least length of " + cord, x.cord(cord, 500), 1625);
            due.is("lengthOf(" + cord + ")", x.lengthOf(cord), 500);
            due.is("so it is already", x.cord(cord, 500), -5);
            due.is("the greatest length of " + cord, x.cord(cord, 3000), 2250);
            due.is("lengthOf(" + cord + ")", x.lengthOf(cord), 3000);
            due.is("so it is already", x.cord(cord, 3000), -5);
            due.is("1 less", x.cord(cord, 2999), 2249);
            for (int other = 0; other < 4; other++) {
                due.is("lengthOf(" + other + ")", x.lengthOf(other), other == cord ? 2999 : 2000);
            }
        }
    }

    private void settingsJustInside() {
        due.of("BAD_VALUE (which or value); NONE if it is so already.");
        int[] first = {5, 20, 10, 10};
        int[] least = {0, 0, 1, 1};
        int[] most = {50, 500, 500, 40};
        for (int which = 0; which < 4; which++) {
            CaughtPellets x = new CaughtPellets();
            due.is("the first one of " + which + " already", x.set(which, first[which]), -5);
            due.is("the least one of " + which, x.set(which, least[which]), first[which]);
            due.is("already", x.set(which, least[which]), -5);
            due.is("the greatest one of " + which, x.set(which, most[which]), least[which]);
            due.is("already", x.set(which, most[which]), -5);
            due.is("too great a one of " + which, x.set(which, most[which] + 1), -2);
            due.is("too small a one of " + which, x.set(which, least[which] - 1), -2);
            for (int other = 0; other < 4; other++) {
                due.is("setting " + other, x.count(15 + other), other == which ? most[which] : first[other]);
            }
            due.is("states", x.count(19), 2);
        }
    }

    private void swingsSoManyAtMost() {
        due.of("Lets the block do half swings, until it is at rest.");
        CaughtPellets x = Scenes.atHeight(501);
        int before = x.count(10);
        due.is("500 of 501 half swings", x.swing(500), 1);
        due.is("half swings", x.count(10) - before, 500);
        due.is("untilRest()", x.untilRest(), 1);
        due.is("the last one", x.swing(1), 0);
        due.is("half swings", x.count(10) - before, 501);
        due.is("at rest", x.swing(1), -5);
        due.is("half swings", x.count(10) - before, 501);
        CaughtPellets y = Scenes.atHeight(500);
        due.is("500 of 500 half swings", y.swing(500), 0);
        due.is("at rest", y.untilRest(), -5);
        CaughtPellets z = Scenes.atHeight(500);
        due.is("499 of 500 half swings", z.swing(499), 1);
        due.is("1 of 1", z.swing(1), 0);
    }

    private void swingsThatEndTooEarly() {
        due.of("1 to 500: so many at most");
        CaughtPellets x = Scenes.atHeight(1);
        int before = x.count(10);
        due.is("500, but 1 brings it to rest", x.swing(500), 0);
        due.is("half swings", x.count(10) - before, 1);
        CaughtPellets y = Scenes.swinging();
        due.is("226 of 227", y.swing(226) > 0 ? 1 : 0, 1);
        due.is("the 227th", y.swing(2), 0);
        due.is("half swings", y.count(10), 227);
        due.is("what it holds stays", y.count(1), 80);
    }

    private void stopsFromAnyHeight() {
        due.of("the height that it had; NONE if it is at rest.");
        CaughtPellets x = Scenes.atHeight(1);
        int before = x.count(10);
        due.is("stop() at 1", x.stop(), 1);
        due.is("its height", x.count(4), 0);
        due.is("no half swing", x.count(10), before);
        due.is("stop() again", x.stop(), -5);
        CaughtPellets y = Scenes.atGreatestHeight();
        due.is("stop() at 300000", y.stop(), 300000);
        due.is("stop() again", y.stop(), -5);
        CaughtPellets z = new CaughtPellets();
        z.load(10, 50);
        z.fire(1, 0);
        due.is("stop() behind a shot without height", z.stop(), -5);
    }
}
