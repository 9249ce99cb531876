/** Bounds of series, bad shots and standards: the promises 12, 13, 15 to 17, 23, 27 and 28. */
public final class SeriesBoundsTest {
    private final Due due = new Due();

    private SeriesBoundsTest() {
    }

    public static void main(String[] args) {
        SeriesBoundsTest test = new SeriesBoundsTest();
        test.seriesOfNoneAndOne();
        test.seriesOfSixty();
        test.meanIsRoundedDown();
        test.spreadIsTheGreatestLessTheLeast();
        test.badByMoreThanTheLimit();
        test.leastAndGreatestLimit();
        test.badShotsAreOfTheSeries();
        test.firstShotOfTheSeries();
        test.nearestOfSeveralIsTheFirst();
        test.worstOfSeveralIsTheFirst();
        test.allIsReckonedAnew();
        test.cleanStrikesNoneOrAllButOne();
        test.strikesDownToNoneAndBack();
        test.limitIsSetJustOnce();
        test.atMostFiveStandards();
        test.leastAndGreatestStandards();
        test.numbersBehindADroppedStandard();
        test.atLeastThreeShots();
        test.meanWithinTheTolerance();
        test.setOfStandardsAsBits();
        test.shotsWithinAStandard();
        test.due.end();
    }

    private void told(CaughtPellets x, int... answers) {
        for (int what = 0; what < answers.length; what++) {
            due.is("series(" + what + ")", x.series(what), answers[what]);
        }
    }

    private void seriesOfNoneAndOne() {
        due.of("A series is all shots that count and are not struck.");
        told(new CaughtPellets(), 0, -5, 0, 0, -5, -5, 0);
        CaughtPellets one = Scenes.series(400);
        told(one, 1, 400, 0, 0, 0, 0, 0);
        one.strike(0, true);
        told(one, 0, -5, 0, 0, -5, -5, 0);
        one.strike(0, false);
        told(one, 1, 400, 0, 0, 0, 0, 0);
        one.forget();
        told(one, 0, -5, 0, 0, -5, -5, 0);
        CaughtPellets x = new CaughtPellets();
        x.cord(0, 2006);
        x.load(80, 400);
        x.fire(1, 0);
        told(x, 0, -5, 0, 0, -5, -5, 0);
        x.cord(0, 2000);
        Scenes.addToSeries(x, 300);
        told(x, 1, 300, 0, 0, 1, 1, 0);
        CaughtPellets zero = new CaughtPellets();
        zero.load(10, 50);
        zero.fire(1, 0);
        told(zero, 1, 0, 0, 0, 0, 0, 0);
    }

    /** 59 shots are much alike, one is not. */
    private static CaughtPellets sixty(int other) {
        CaughtPellets x = new CaughtPellets();
        x.set(3, 40);
        for (int round = 0; round < 3; round++) {
            for (int i = 0; i < 20; i++) {
                x.load(80, 20 * round + i == other ? 600 : 400);
            }
            x.fire(20, 500);
            x.digOut();
        }
        return x;
    }

    private void seriesOfSixty() {
        due.of("A series is all shots that count and are not struck.");
        for (int other : new int[] {0, 19, 20, 40, 59}) {
            CaughtPellets x = sixty(other);
            due.is("its shots", x.series(0), 60);
            due.is("its bad shots", x.series(3), 1);
            due.is("is " + other + " bad", x.shot(other, 6), 1);
            due.is("its spread", x.series(2) >= 199 ? 1 : 0, 1);
            due.is("clean()", x.clean(), 1);
            due.is("is " + other + " struck", x.shot(other, 5), 1);
            due.is("its shots", x.series(0), 59);
            due.is("its first shot", x.series(4), other == 0 ? 1 : 0);
        }
        CaughtPellets x = sixty(60);
        for (int left = 59; left >= 0; left--) {
            due.is("strike", x.strike(59 - left, true), left);
        }
        told(x, 0, -5, 0, 0, -5, -5, 0);
        due.is("strike(59, false)", x.strike(59, false), 1);
        due.is("its first shot", x.series(4), 59);
    }

    private void meanIsRoundedDown() {
        due.of("Its mean is the mean of their told speeds, rounded down");
        due.is("100, 100", Scenes.series(100, 100).series(1), 100);
        due.is("100, 101", Scenes.series(100, 101).series(1), 100);
        due.is("100, 102", Scenes.series(100, 102).series(1), 101);
        due.is("100, 100, 101", Scenes.series(100, 100, 101).series(1), 100);
        due.is("100, 101, 101", Scenes.series(100, 101, 101).series(1), 100);
        due.is("101, 101, 101", Scenes.series(101, 101, 101).series(1), 101);
        due.is("49, 899", Scenes.series(49, 899).series(1), 474);
    }

    private void spreadIsTheGreatestLessTheLeast() {
        due.of("its spread the greatest less the least");
        int[][] speeds = {{300, 400, 500}, {500, 400, 300}, {400, 300, 500}, {400, 500, 300}, {300, 500, 400}, {500, 300, 400}};
        for (int[] of : speeds) {
            due.is("300 to 500 in any order", Scenes.series(of).series(2), 200);
        }
        due.of("2 for its spread (0 without shots)");
        due.is("of none", new CaughtPellets().series(2), 0);
        due.is("of one", Scenes.series(400).series(2), 0);
        due.is("of the same", Scenes.series(400, 400).series(2), 0);
        due.is("of 1", Scenes.series(400, 401).series(2), 1);
        due.is("of the most", Scenes.series(899, 49).series(2), 850);
        CaughtPellets x = Scenes.series(300, 400, 500);
        x.strike(2, true);
        due.is("without the struck one", x.series(2), 100);
        x.strike(0, true);
        due.is("of the one that is left", x.series(2), 0);
    }

    /** The limit is set; which shots are bad then. */
    private void bad(CaughtPellets x, int limit, int... bad) {
        x.setLimit(limit);
        int all = 0;
        for (int shot = 0; shot < bad.length; shot++) {
            due.is("is " + shot + " bad by " + limit, x.shot(shot, 6), bad[shot]);
            all += bad[shot];
        }
        due.is("bad shots by " + limit, x.series(3), all);
    }

    private void badByMoreThanTheLimit() {
        due.of("A shot of the series is bad if its told speed differs from the mean by more than the limit");
        bad(Scenes.series(370, 400, 430), 30, 0, 0, 0);
        bad(Scenes.series(370, 400, 430), 29, 1, 0, 1);
        bad(Scenes.series(370, 400, 430), 31, 0, 0, 0);
        // The mean is 130 of 130.5, so the first one differs by 30 and the other one by 31.
        bad(Scenes.series(100, 161), 30, 0, 1);
        bad(Scenes.series(161, 100), 30, 1, 0);
        bad(Scenes.series(100, 161), 31, 0, 0);
        bad(Scenes.series(100, 161), 29, 1, 1);
        bad(Scenes.series(400), 1, 0);
    }

    private void leastAndGreatestLimit() {
        due.of("by more than the limit (1 to 200; 30 at first)");
        bad(Scenes.series(400, 402), 1, 0, 0);
        bad(Scenes.series(400, 403), 1, 0, 1);
        bad(Scenes.series(400, 404), 1, 1, 1);
        bad(Scenes.series(100, 500), 200, 0, 0);
        bad(Scenes.series(100, 501), 200, 0, 1);
        bad(Scenes.series(100, 502), 200, 1, 1);
        CaughtPellets x = Scenes.series(370, 400, 431);
        due.is("30 and 31 by the first limit", x.series(3), 1);
        due.is("30 by the first limit", x.shot(0, 6), 0);
        due.is("31 by the first limit", x.shot(2, 6), 1);
    }

    private void badShotsAreOfTheSeries() {
        due.of("6 for whether it is bad (1, otherwise 0)");
        CaughtPellets x = Scenes.series(400, 400, 500);
        due.is("67 from the mean", x.shot(2, 6), 1);
        due.is("33 from the mean", x.shot(0, 6), 1);
        x.strike(2, true);
        due.is("it is struck", x.shot(2, 6), 0);
        due.is("the mean is another one", x.shot(0, 6), 0);
        x.cord(0, 2006);
        x.load(80, 400);
        x.fire(1, 0);
        due.is("told 0, but it does not count", x.shot(3, 6), 0);
        due.is("bad shots", x.series(3), 0);
        due.of("5 for whether it is struck (1, otherwise 0)");
        due.is("it is struck", x.shot(2, 5), 1);
        due.is("it is not struck", x.shot(0, 5), 0);
        due.is("it does not count", x.shot(3, 5), 0);
    }

    private void firstShotOfTheSeries() {
        due.of("4 for its first shot (NONE without one)");
        CaughtPellets x = Scenes.series(400, 410, 420);
        due.is("of 3", x.series(4), 0);
        x.strike(0, true);
        due.is("of 2", x.series(4), 1);
        x.strike(1, true);
        due.is("of 1", x.series(4), 2);
        x.strike(2, true);
        due.is("of none", x.series(4), -5);
        x.strike(1, false);
        due.is("of 1", x.series(4), 1);
    }

    private void nearestOfSeveralIsTheFirst() {
        due.of("5 for the shot that is nearest to the mean (of several the first one; NONE without shots)");
        due.is("of none", new CaughtPellets().series(5), -5);
        due.is("of one", Scenes.series(400).series(5), 0);
        due.is("above and below", Scenes.series(410, 390).series(5), 0);
        due.is("below and above", Scenes.series(390, 410).series(5), 0);
        due.is("nearer by 1, rounded down", Scenes.series(411, 390).series(5), 1);
        due.is("nearer by 1, rounded down", Scenes.series(390, 411).series(5), 0);
        due.is("the mean itself", Scenes.series(300, 500, 400).series(5), 2);
        due.is("the mean itself twice", Scenes.series(300, 400, 500, 400).series(5), 1);
        CaughtPellets x = Scenes.series(400, 410, 390);
        x.strike(0, true);
        due.is("the mean itself is struck", x.series(5), 1);
    }

    private void struck(CaughtPellets x, int limit, int... struck) {
        x.setLimit(limit);
        int all = 0;
        for (int of : struck) {
            all += of;
        }
        due.is("clean() by " + limit, x.clean(), all == 0 ? -5 : all);
        for (int shot = 0; shot < struck.length; shot++) {
            due.is("is " + shot + " struck by " + limit, x.shot(shot, 5), struck[shot]);
        }
        due.is("the series behind it", x.series(0), struck.length - all);
        due.is("bad ones behind it", x.series(3), 0);
        due.is("clean() again", x.clean(), -5);
    }

    private void worstOfSeveralIsTheFirst() {
        due.of("the worst one (the greatest difference, of several the first one) is struck");
        struck(Scenes.series(300, 400, 500), 99, 1, 0, 0);
        struck(Scenes.series(500, 400, 300), 99, 1, 0, 0);
        struck(Scenes.series(400, 300, 500), 99, 0, 1, 0);
        struck(Scenes.series(400, 500, 300), 99, 0, 1, 0);
        // 401, 299 and 500: the mean is 400, the differences 1, 101 and 100.
        struck(Scenes.series(401, 500, 299), 99, 0, 0, 1);
        struck(Scenes.series(500, 401, 299), 100, 0, 0, 1);
        struck(Scenes.series(500, 401, 299), 101, 0, 0, 0);
    }

    private void allIsReckonedAnew() {
        due.of("as long as any is bad, the worst one");
        // All four are bad by the mean 450, none by the mean 400.
        struck(Scenes.series(400, 400, 400, 600), 40, 0, 0, 0, 1);
        // 500 is not bad by the mean 475, but by 433.
        struck(Scenes.series(400, 400, 500, 600), 60, 0, 0, 1, 1);
        struck(Scenes.series(600, 500, 400, 400), 60, 1, 1, 0, 0);
        due.is("500 by the mean 475", Scenes.series(400, 400, 500, 600).shot(2, 6), 0);
    }

    private void cleanStrikesNoneOrAllButOne() {
        due.of("how many shots are struck by that; NONE if none is bad.");
        due.is("of none", new CaughtPellets().clean(), -5);
        struck(Scenes.series(400), 1, 0);
        struck(Scenes.series(400, 402), 1, 0, 0);
        struck(Scenes.series(400, 403), 1, 0, 1);
        struck(Scenes.series(403, 400), 1, 1, 0);
        struck(Scenes.series(100, 200, 300, 400, 500), 1, 1, 1, 1, 1, 0);
        struck(Scenes.series(500, 400, 300, 200, 100), 1, 1, 1, 1, 1, 0);
        CaughtPellets x = Scenes.series(400, 410, 600);
        x.strike(2, true);
        due.is("a struck one is not bad", x.clean(), -5);
        due.is("it stays struck", x.shot(2, 5), 1);
        x.strike(2, false);
        due.is("clean()", x.clean(), 1);
        due.is("it is one act", x.count(19), 4);
        due.is("undo()", x.undo(), 3);
        due.is("its shots", x.series(0), 3);
    }

    private void strikesDownToNoneAndBack() {
        due.of("how many shots the series has then; UNKNOWN; NOT_POSSIBLE if it does not count; NONE if it is so already.");
        CaughtPellets x = Scenes.series(400, 410, 420);
        for (int shot = 0; shot < 3; shot++) {
            due.is("so already", x.strike(shot, false), -5);
            due.is("strike", x.strike(shot, true), 2 - shot);
            due.is("so already", x.strike(shot, true), -5);
        }
        for (int shot = 0; shot < 3; shot++) {
            due.is("take back", x.strike(shot, false), shot + 1);
            due.is("so already", x.strike(shot, false), -5);
        }
    }

    private void limitIsSetJustOnce() {
        due.of("the previous one; BAD_VALUE; NONE if it is so already.");
        CaughtPellets x = new CaughtPellets();
        int previous = 30;
        for (int limit : new int[] {1, 200, 2, 199, 30}) {
            due.is("setLimit(" + limit + ")", x.setLimit(limit), previous);
            due.is("count(14)", x.count(14), limit);
            due.is("so already", x.setLimit(limit), -5);
            due.is("setLimit(0)", x.setLimit(0), -2);
            due.is("setLimit(201)", x.setLimit(201), -2);
            due.is("count(14)", x.count(14), limit);
            previous = limit;
        }
    }

    private void atMostFiveStandards() {
        due.of("at most 5 are kept, numbered from 0");
        CaughtPellets x = new CaughtPellets();
        for (int i = 0; i < 5; i++) {
            due.is("standard(" + i + ", 0)", x.standard(i, 0), -1);
            due.is("keepStandard", x.keepStandard(100 + i, i), i);
            due.is("standard(" + i + ", 0)", x.standard(i, 0), 100 + i);
        }
        due.is("the sixth", x.keepStandard(400, 10), -3);
        due.is("standard(5, 0)", x.standard(5, 0), -1);
        due.is("count(13)", x.count(13), 5);
        due.is("dropStandard(4)", x.dropStandard(4), 4);
        due.is("the fifth again", x.keepStandard(400, 10), 4);
        due.is("the sixth again", x.keepStandard(400, 10), -3);
        due.is("undo()", x.undo(), 3);
        due.is("the fifth again", x.keepStandard(401, 11), 4);
        due.is("standard(4, 0)", x.standard(4, 0), 401);
    }

    private void leastAndGreatestStandards() {
        due.of("A standard is a speed with a tolerance");
        int[][] standards = {{50, 0}, {50, 100}, {900, 0}, {900, 100}, {51, 1}};
        CaughtPellets x = new CaughtPellets();
        for (int i = 0; i < standards.length; i++) {
            due.is("keepStandard", x.keepStandard(standards[i][0], standards[i][1]), i);
            due.is("its speed", x.standard(i, 0), standards[i][0]);
            due.is("its tolerance", x.standard(i, 1), standards[i][1]);
        }
        CaughtPellets y = new CaughtPellets();
        int[][] bad = {{49, 0}, {901, 0}, {50, -1}, {900, 101}, {49, 101}, {100, 400}};
        for (int[] of : bad) {
            due.is("keepStandard(" + of[0] + ", " + of[1] + ")", y.keepStandard(of[0], of[1]), -2);
        }
        due.is("count(13)", y.count(13), 0);
    }

    private void numbersBehindADroppedStandard() {
        due.of("Drops a standard; those behind it get numbers that are 1 less.");
        for (int dropped = 0; dropped < 5; dropped++) {
            CaughtPellets x = new CaughtPellets();
            for (int i = 0; i < 5; i++) {
                x.keepStandard(100 + i, 10 + i);
            }
            due.is("dropStandard(" + dropped + ")", x.dropStandard(dropped), 4);
            for (int i = 0; i < 4; i++) {
                int former = i < dropped ? i : i + 1;
                due.is("speed of " + i, x.standard(i, 0), 100 + former);
                due.is("tolerance of " + i, x.standard(i, 1), 10 + former);
            }
            due.is("standard(4, 0)", x.standard(4, 0), -1);
            due.is("dropStandard(4)", x.dropStandard(4), -1);
            for (int left = 3; left >= 0; left--) {
                due.is("dropStandard(0)", x.dropStandard(0), left);
            }
            due.is("dropStandard(0) of none", x.dropStandard(0), -1);
        }
    }

    private void atLeastThreeShots() {
        due.of("A series meets a standard if it has at least 3 shots");
        CaughtPellets x = new CaughtPellets();
        x.keepStandard(400, 100);
        int[] met = {0, 0, 0, 1, 1};
        for (int shots = 0; shots < met.length; shots++) {
            due.is(shots + " shots, standard(0, 2)", x.standard(0, 2), met[shots]);
            due.is(shots + " shots, series(6)", x.series(6), met[shots]);
            due.is(shots + " shots, standard(0, 3)", x.standard(0, 3), shots);
            Scenes.addToSeries(x, 400);
        }
        x.strike(0, true);
        due.is("4 of 5", x.standard(0, 2), 1);
        x.strike(1, true);
        due.is("3 of 5", x.standard(0, 2), 1);
        x.strike(2, true);
        due.is("2 of 5", x.standard(0, 2), 0);
        CaughtPellets y = Scenes.series(400, 400);
        y.keepStandard(400, 100);
        y.cord(0, 2006);
        y.load(80, 400);
        y.fire(1, 0);
        due.is("2 of 3, one does not count", y.standard(0, 2), 0);
    }

    private void meanWithinTheTolerance() {
        due.of("its mean differs from the speed by at most the tolerance");
        int[][] standards = {
            {400, 0, 1}, {401, 0, 0}, {399, 0, 0}, {401, 1, 1}, {399, 1, 1}, {402, 1, 0}, {398, 1, 0},
            {410, 10, 1}, {390, 10, 1}, {411, 10, 0}, {389, 10, 0}, {500, 100, 1}, {300, 100, 1},
            {501, 100, 0}, {299, 100, 0},
        };
        for (int[] of : standards) {
            CaughtPellets x = Scenes.series(400, 400, 401);
            x.keepStandard(of[0], of[1]);
            due.is(of[0] + " by " + of[1], x.standard(0, 2), of[2]);
            due.is(of[0] + " by " + of[1], x.series(6), of[2]);
        }
    }

    private void setOfStandardsAsBits() {
        due.of("6 for standards that it meets (a set, as bits)");
        for (int set = 0; set < 32; set++) {
            CaughtPellets x = Scenes.series(400, 400, 400);
            for (int i = 0; i < 5; i++) {
                x.keepStandard((set >> i & 1) == 1 ? 400 : 600, 50);
            }
            due.is("the set " + set, x.series(6), set);
            x.strike(0, true);
            due.is("two shots meet none", x.series(6), 0);
        }
        due.is("without standards", Scenes.series(400, 400, 400).series(6), 0);
    }

    private void shotsWithinAStandard() {
        due.of("3 for how many shots of the series are within it one by one");
        CaughtPellets x = Scenes.series(389, 390, 400, 410, 411);
        x.keepStandard(400, 10);
        x.keepStandard(400, 11);
        x.keepStandard(400, 9);
        x.keepStandard(400, 0);
        x.keepStandard(300, 88);
        int[] within = {3, 5, 1, 1, 0};
        for (int i = 0; i < within.length; i++) {
            due.is("standard(" + i + ", 3)", x.standard(i, 3), within[i]);
        }
        x.strike(1, true);
        due.is("one of them is struck", x.standard(0, 3), 2);
        CaughtPellets y = new CaughtPellets();
        y.keepStandard(50, 50);
        y.load(10, 50);
        y.fire(1, 0);
        due.is("a shot of which 0 is told", y.standard(0, 3), 1);
        y.cord(0, 2006);
        y.load(10, 50);
        y.fire(1, 0);
        due.is("one that does not count", y.standard(0, 3), 1);
    }
}
