/** Promises 16, 17 and 28: keepStandard, dropStandard, standard; and what series(6) tells. */
public final class StandardTest {
    private StandardTest() {
    }

    public static void main(String[] args) {
        Due due = new Due();
        standardsAreKept(due);
        keepStandardIsRefused(due);
        standardsAreDropped(due);
        standardsAreMet(due);
        twoShotsAreTooFew(due);
        shotsWithinOneByOne(due);
        standardIsRefused(due);
        due.end();
    }

    private static void standardsAreKept(Due due) {
        due.of("Returns its number; BAD_VALUE; FULL if 5 are kept.");
        CaughtPellets x = new CaughtPellets();
        due.is("keepStandard(50, 0)", x.keepStandard(50, 0), 0);
        due.is("keepStandard(900, 100)", x.keepStandard(900, 100), 1);
        due.is("the same again", x.keepStandard(900, 100), 2);
        due.of("`int keepStandard(int speed, int tolerance)`: Keeps a standard. This is an act.");
        due.is("count(13)", x.count(13), 3);
        due.is("standard(0, 0)", x.standard(0, 0), 50);
        due.is("standard(0, 1)", x.standard(0, 1), 0);
        due.is("standard(1, 0)", x.standard(1, 0), 900);
        due.is("standard(1, 1)", x.standard(1, 1), 100);
        due.is("undo()", x.undo(), 2);
        due.is("count(13)", x.count(13), 2);
        due.is("standard(2, 0)", x.standard(2, 0), -1);
    }

    private static void keepStandardIsRefused(Due due) {
        due.of("- `speed`: 50 to 900");
        CaughtPellets x = new CaughtPellets();
        due.is("keepStandard(49, 0)", x.keepStandard(49, 0), -2);
        due.is("keepStandard(901, 0)", x.keepStandard(901, 0), -2);
        due.of("- `tolerance`: 0 to 100");
        due.is("keepStandard(50, -1)", x.keepStandard(50, -1), -2);
        due.is("keepStandard(50, 101)", x.keepStandard(50, 101), -2);
        due.is("keepStandard(MAX, MIN)", x.keepStandard(Integer.MAX_VALUE, Integer.MIN_VALUE), -2);
        due.same("nothing is changed", Told.everything(x), Told.everything(new CaughtPellets()));
        due.of("A standard is a speed with a tolerance: at most 5 are kept, numbered from 0.");
        for (int i = 0; i < 5; i++) {
            due.is("keepStandard", x.keepStandard(100 + i, i), i);
        }
        due.is("one more", x.keepStandard(100, 0), -3);
        due.is("one more, a bad one", x.keepStandard(49, 0), -2);
        due.is("one more, a bad tolerance", x.keepStandard(50, 101), -2);
        due.is("count(13)", x.count(13), 5);
        due.is("the last one", x.standard(4, 0), 104);
    }

    private static void standardsAreDropped(Due due) {
        due.of("Returns how many are kept then; UNKNOWN.");
        CaughtPellets x = new CaughtPellets();
        due.is("dropStandard(0) of none", x.dropStandard(0), -1);
        for (int i = 0; i < 5; i++) {
            x.keepStandard(100 + i, 10 + i);
        }
        due.of("- `standard`: a standard");
        due.is("dropStandard(5)", x.dropStandard(5), -1);
        due.is("dropStandard(-1)", x.dropStandard(-1), -1);
        due.is("dropStandard(MIN)", x.dropStandard(Integer.MIN_VALUE), -1);
        due.is("count(13)", x.count(13), 5);
        due.is("dropStandard(1)", x.dropStandard(1), 4);
        due.of("`int dropStandard(int standard)`: Drops a standard; those behind it get numbers that are 1 "
            + "less. This is an act.");
        int[] left = {0, 2, 3, 4};
        for (int i = 0; i < left.length; i++) {
            due.is("speed of " + i, x.standard(i, 0), 100 + left[i]);
            due.is("tolerance of " + i, x.standard(i, 1), 10 + left[i]);
        }
        due.is("standard(4, 0)", x.standard(4, 0), -1);
        due.is("dropStandard(4)", x.dropStandard(4), -1);
        due.is("dropStandard(3)", x.dropStandard(3), 3);
        due.is("dropStandard(0)", x.dropStandard(0), 2);
        due.is("the first one now", x.standard(0, 0), 102);
        due.is("the second one now", x.standard(1, 0), 103);
        due.is("undo()", x.undo(), 3);
        due.is("the first one again", x.standard(0, 0), 100);
        due.is("keepStandard", x.keepStandard(200, 0), 3);
    }

    private static CaughtPellets threeWithMean399() {
        CaughtPellets x = new CaughtPellets();
        Told.fireEach(x, 395, 400, 405);
        return x;
    }

    private static void standardsAreMet(Due due) {
        due.of("A series meets a standard if it has at least 3 shots, and its mean differs from the speed by "
            + "at most the tolerance.");
        CaughtPellets x = threeWithMean399();
        int[][] standards = {{399, 0, 1}, {400, 0, 0}, {409, 10, 1}, {389, 10, 1}, {388, 10, 0}};
        int bits = 0;
        for (int i = 0; i < standards.length; i++) {
            x.keepStandard(standards[i][0], standards[i][1]);
            due.is("standard(" + i + ", 2)", x.standard(i, 2), standards[i][2]);
            bits |= standards[i][2] << i;
            due.is("series(6)", x.series(6), bits);
        }
        due.is("series(6)", x.series(6), 13);
        x.dropStandard(0);
        due.is("the bits are by the numbers", x.series(6), 6);
        due.is("series(0) without a standard", threeWithMean399().series(6), 0);
    }

    private static void twoShotsAreTooFew(Due due) {
        due.of("2 for whether the series meets it (1, otherwise 0)");
        CaughtPellets x = threeWithMean399();
        x.keepStandard(399, 100);
        due.is("series(6)", x.series(6), 1);
        x.strike(1, true);
        due.is("its mean", x.series(1), 399);
        due.is("two shots", x.series(6), 0);
        due.is("standard(0, 2)", x.standard(0, 2), 0);
        due.is("standard(0, 3)", x.standard(0, 3), 2);
        CaughtPellets y = new CaughtPellets();
        y.keepStandard(50, 100);
        due.is("no shots", y.standard(0, 2), 0);
        due.is("no shots", y.series(6), 0);
        due.is("no shots", y.standard(0, 3), 0);
    }

    private static void shotsWithinOneByOne(Due due) {
        due.of("- `what`: 0 for its speed, 1 for its tolerance, 2 for whether the series meets it (1, "
            + "otherwise 0), 3 for how many shots of the series are within it one by one");
        CaughtPellets x = threeWithMean399();
        x.keepStandard(399, 5);
        x.keepStandard(399, 4);
        x.keepStandard(400, 5);
        x.keepStandard(398, 4);
        x.keepStandard(300, 90);
        int[] within = {3, 1, 2, 2, 0};
        for (int i = 0; i < within.length; i++) {
            due.is("standard(" + i + ", 3)", x.standard(i, 3), within[i]);
        }
        x.strike(0, true);
        due.is("a struck shot", x.standard(0, 3), 2);
        x.dropStandard(4);
        x.keepStandard(50, 100);
        x.cord(0, 2100);
        Told.fireEach(x, 50, 50, 50);
        due.is("shots that do not count have the told speed 0", x.standard(4, 3), 0);
    }

    private static void standardIsRefused(Due due) {
        due.of("`int standard(int standard, int what)`: - `standard`: a standard");
        CaughtPellets x = new CaughtPellets();
        due.is("standard(0, 4) of none", x.standard(0, 4), -1);
        x.keepStandard(399, 5);
        due.is("standard(0, 4)", x.standard(0, 4), -2);
        due.is("standard(0, -1)", x.standard(0, -1), -2);
        due.is("standard(1, 0)", x.standard(1, 0), -1);
        due.is("standard(1, 4)", x.standard(1, 4), -1);
        due.is("standard(-1, 0)", x.standard(-1, 0), -1);
        due.is("standard(MAX, MAX)", x.standard(Integer.MAX_VALUE, Integer.MAX_VALUE), -1);
    }
}
