/** Promises 26 and 30: lengthOf, count. */
public final class CountTest {
    private CountTest() {
    }

    public static void main(String[] args) {
        Due due = new Due();
        everyCountIsTold(due);
        countsGoOnBehindForgetting(due);
        countIsRefused(due);
        lengthsAreTold(due);
        due.end();
    }

    private static void everyCountIsTold(Due due) {
        due.of("`int count(int what)`: - `what`: 0 for the mass of the block, 1 for what it holds, in tenths, "
            + "2 for the pellets that it holds, 3 for its whole mass in tenths, 4 for its height, 5 for the "
            + "length that counts, 6 for whether it hangs straight (1, otherwise 0), 7 for shots that were "
            + "fired and are kept, 8 for those of them that do not count, 9 for shots that wait, 10 for half "
            + "swings so far, 11 for all tenths of grams caught so far, 12 for all tenths of grams dug out so "
            + "far (with those in blocks that were changed), 13 for standards, 14 for the limit, 15 to 18 for "
            + "the settings 0 to 3, 19 for the states in the history, 20 for the length of the text");
        CaughtPellets x = new CaughtPellets();
        x.block(5000);
        x.cord(1, 2004);
        x.set(0, 7);
        x.set(1, 30);
        x.set(2, 11);
        x.set(3, 12);
        x.setLimit(33);
        x.keepStandard(400, 20);
        x.keepStandard(410, 20);
        x.load(80, 400);
        x.load(90, 400);
        x.load(100, 400);
        x.fire(1, 500);
        due.is("digOut()", x.digOut(), 80);
        x.fire(2, 3);
        x.load(10, 50);
        x.type('5');
        x.type('@');
        // 80 tenths at 400 on 50000: height 2075, at rest by 145 half swings.
        // 90 tenths at 400 on 50000: height 2628; then 79, 77 and 75 are lost.
        int[] counts = {
            5000, 90, 1, 50090, 2397, 2001, 1, 3, 1, 1, 148, 170, 80, 2, 33, 7, 30, 11, 12, 4, 2,
        };
        for (int what = 0; what < counts.length; what++) {
            due.is("count(" + what + ")", x.count(what), counts[what]);
        }
    }

    private static void countsGoOnBehindForgetting(Due due) {
        due.of("10 for half swings so far, 11 for all tenths of grams caught so far");
        CaughtPellets x = new CaughtPellets();
        x.load(80, 400);
        x.fire(1, 2);
        x.swing(3);
        due.is("half swings so far", x.count(10), 5);
        x.stop();
        x.forget();
        x.block(4000);
        x.load(90, 400);
        x.fire(1, 4);
        due.is("half swings so far", x.count(10), 9);
        due.is("caught so far", x.count(11), 170);
        due.is("dug out so far", x.count(12), 80);
        due.is("what it holds", x.count(1), 90);
    }

    private static void countIsRefused(Due due) {
        due.of("Returns the number; BAD_VALUE.");
        CaughtPellets x = new CaughtPellets();
        due.is("count(-1)", x.count(-1), -2);
        due.is("count(21)", x.count(21), -2);
        due.is("count(MIN)", x.count(Integer.MIN_VALUE), -2);
        due.is("count(MAX)", x.count(Integer.MAX_VALUE), -2);
    }

    private static void lengthsAreTold(Due due) {
        due.of("Returns its length; UNKNOWN.");
        CaughtPellets x = new CaughtPellets();
        for (int cord = 0; cord < 4; cord++) {
            x.cord(cord, 500 + cord);
        }
        for (int cord = 0; cord < 4; cord++) {
            due.is("lengthOf(" + cord + ")", x.lengthOf(cord), 500 + cord);
        }
        due.of("`int lengthOf(int cord)`: - `cord`: 0 to 3");
        due.is("lengthOf(4)", x.lengthOf(4), -1);
        due.is("lengthOf(-1)", x.lengthOf(-1), -1);
        due.is("lengthOf(MAX)", x.lengthOf(Integer.MAX_VALUE), -1);
    }
}
