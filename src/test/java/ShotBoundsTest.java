/** Bounds of SHOTS: what is rounded, the reasons, half swings; and of the promises 25 and 29. */
public final class ShotBoundsTest {
    private final Due due = new Due();

    private ShotBoundsTest() {
    }

    public static void main(String[] args) {
        ShotBoundsTest test = new ShotBoundsTest();
        test.speedOfTheBlockIsRoundedDown();
        test.heightIsRoundedDown();
        test.heightIsAtMostTheLength();
        test.lightestAndHeaviestOfAll();
        test.swingsJustAboveHeightZero();
        test.swingsAlsoBelowTheLeastHeight();
        test.hitsAtRestJustAtHeightZero();
        test.hangsStraightJustUpToTheSetting();
        test.holdsFewerThanTheSetting();
        test.reasonsInTheirOrder();
        test.nothingIsCaughtOfAShotThatDoesNotCount();
        test.lossIsRoundedUp();
        test.lossIsAtLeastOne();
        test.restJustBelowTheLeastHeight();
        test.rootOfASquareAndJustBelowIt();
        test.toldSpeedIsRoundedDown();
        test.toldSpeedIsFromTheFirstHeight();
        test.wouldTellsOnly();
        test.halfSwingsUntilRest();
        test.mostHalfSwingsUntilRest();
        test.due.end();
    }

    /** Fires the shot at a block of 4000 grams that holds nothing, and asks would() ahead of it. */
    private void heightAndTold(int mass, int speed, int height, int told) {
        heightAndTold(new CaughtPellets(), mass, speed, height, told);
    }

    private void heightAndTold(CaughtPellets x, int mass, int speed, int height, int told) {
        String shot = mass + " at " + speed;
        due.is("would, reason, " + shot, x.would(mass, speed, 2), 0);
        due.is("would, height, " + shot, x.would(mass, speed, 3), height);
        due.is("would, told, " + shot, x.would(mass, speed, 4), told);
        x.load(mass, speed);
        due.is("fire, " + shot, x.fire(1, 0), 1);
        int last = x.count(7) - 1;
        due.is("height, " + shot, x.shot(last, 3), height);
        due.is("told, " + shot, x.shot(last, 4), told);
        due.is("the block's height, " + shot, x.count(4), height);
    }

    private void speedOfTheBlockIsRoundedDown() {
        due.of("in millimetres per second, rounded down, M being ahead of the shot");
        // No rest: 1000, 500, 2000 and 3000 just; with M behind the shot it would be less.
        heightAndTold(50, 801, 5098, 800);
        heightAndTold(64, 313, 1274, 312);
        heightAndTold(100, 802, 20394, 801);
        heightAndTold(150, 803, 45887, 802);
        // 1 less than the next number: 90 and 40010 of 40011, 830, 2796, 1916.
        heightAndTold(11, 331, 41, 323);
        heightAndTold(71, 469, 3512, 467);
        heightAndTold(133, 844, 39859, 843);
        heightAndTold(253, 305, 18717, 304);
    }

    private void heightIsRoundedDown() {
        due.of("is u * u * 100 / 19613, rounded down (19613 is twice the pull");
        // Rests of 1 and of 19607 of 19613.
        heightAndTold(274, 865, 176523, 864);
        heightAndTold(1987, 84, 80561, 83);
        heightAndTold(1987, 129, 189969, 128);
        // 14 by 14 is 0.99 of a hundredth of a millimetre.
        heightAndTold(10, 60, 0, 0);
        heightAndTold(10, 61, 1, 56);
        heightAndTold(10, 80, 1, 56);
        heightAndTold(10, 81, 2, 76);
    }

    private void heightIsAtMostTheLength() {
        due.of("but at most L * 100");
        heightAndTold(withLength(528), 145, 891, 52799, 890);
        heightAndTold(withLength(527), 151, 855, 52700, 854);
        heightAndTold(withLength(563), 152, 878, 56300, 877);
        // The greatest and the least length, far above.
        CaughtPellets x = withLength(3000);
        x.block(1000);
        heightAndTold(x, 2000, 900, 300000, 46);
        CaughtPellets y = withLength(500);
        y.block(1000);
        heightAndTold(y, 2000, 900, 50000, 18);
        // The length that counts is rounded down first.
        CaughtPellets z = withLength(500);
        z.cord(0, 503);
        heightAndTold(z, 2000, 900, 50000, 65);
    }

    private static CaughtPellets withLength(int length) {
        CaughtPellets x = new CaughtPellets();
        for (int cord = 0; cord < 4; cord++) {
            x.cord(cord, length);
        }
        return x;
    }

    private void lightestAndHeaviestOfAll() {
        due.of("the block then has the speed u = m * v * 1000 / (M + m)");
        int[][] shots = {
            {1000, 10, 50, 12, 48}, {1000, 10, 900, 4120, 898}, {1000, 2000, 900, 300000, 46},
            {9000, 10, 50, 0, 0}, {9000, 2000, 50, 6013, 49}, {9000, 2000, 900, 300000, 352},
        };
        for (int[] of : shots) {
            CaughtPellets x = withLength(3000);
            x.block(of[0]);
            heightAndTold(x, of[1], of[2], of[3], of[4]);
        }
        CaughtPellets full = withLength(3000);
        full.set(3, 40);
        full.block(9000);
        for (int round = 0; round < 2; round++) {
            Scenes.loadText(full, round == 0 ? "200@900x9;200@900x9;200@900x2" : "200@900x9;200@900x9;200@900");
            full.fire(20, 500);
        }
        due.is("the heaviest block but for one pellet", full.count(3), 168000);
        due.is("the lightest shot", full.would(10, 50, 3), 0);
        due.is("the lightest shot, as fast as can be", full.would(10, 900, 3), 14);
        due.is("its told speed", full.would(10, 900, 4), 873);
        heightAndTold(full, 2000, 900, 300000, 651);
    }

    private void swingsJustAboveHeightZero() {
        due.of("It swings just if its height is above 0");
        CaughtPellets x = new CaughtPellets();
        x.load(10, 60);
        x.load(10, 60);
        due.is("height 0: both count", x.fire(2, 0), 2);
        due.is("it is at rest", x.untilRest(), -5);
        due.is("it has two pellets", x.count(2), 2);
        due.is("no half swing", x.fire(1, 500), -5);
        CaughtPellets y = new CaughtPellets();
        y.load(10, 61);
        y.load(10, 61);
        due.is("height 1: the first one counts", y.fire(2, 0), 1);
        due.is("it swings", y.untilRest(), 1);
        due.is("the other one hits it while it swings", y.shot(1, 2), 1);
    }

    private void swingsAlsoBelowTheLeastHeight() {
        due.of("also if that is less than the setting 2; otherwise it is at rest.");
        // Heights 9 and 10 with the setting 10; 1 and 499 with the setting 500.
        int[][] shots = {{10, 173, 9, 10}, {10, 181, 10, 10}, {10, 61, 1, 500}, {14, 895, 499, 500}, {10, 61, 1, 1}};
        for (int[] of : shots) {
            CaughtPellets x = new CaughtPellets();
            x.set(2, of[3]);
            x.load(of[0], of[1]);
            x.fire(1, 0);
            due.is("height " + of[2] + ", setting " + of[3], x.count(4), of[2]);
            due.is("would", x.would(80, 400, 2), 1);
            due.is("untilRest()", x.untilRest(), 1);
            due.is("swing(500)", x.swing(500), 0);
            due.is("half swings", x.count(10), 1);
        }
        CaughtPellets y = Scenes.atHeight(499);
        due.is("set(2, 500), so that it is less", y.set(2, 500), 1);
        due.is("it swings on", y.count(4), 499);
    }

    private void hitsAtRestJustAtHeightZero() {
        due.of("1 the block swings");
        CaughtPellets x = Scenes.atHeight(1);
        due.is("height 1", x.would(80, 400, 2), 1);
        x.swing(1);
        due.is("height 0", x.would(80, 400, 2), 0);
        CaughtPellets y = Scenes.atHeight(1);
        y.stop();
        due.is("stopped", y.would(80, 400, 2), 0);
        due.is("the greatest height", Scenes.atGreatestHeight().would(80, 400, 2), 1);
    }

    private void hangsStraightJustUpToTheSetting() {
        due.of("2 it does not hang straight");
        int[][] cases = {{0, 0}, {5, 5}, {50, 50}, {0, 1}, {5, 6}, {50, 51}};
        for (int[] of : cases) {
            CaughtPellets x = new CaughtPellets();
            x.set(0, of[0]);
            x.cord(3, 2000 + of[1]);
            int reason = of[0] == of[1] ? 0 : 2;
            due.is("setting " + of[0] + ", " + of[1] + " longer", x.would(80, 400, 2), reason);
            x.load(80, 400);
            due.is("fire", x.fire(1, 0), reason == 0 ? 1 : 0);
            due.is("its reason", x.shot(0, 2), reason);
            due.is("is it of the series", x.series(0), reason == 0 ? 1 : 0);
        }
    }

    private void holdsFewerThanTheSetting() {
        due.of("the block does not hold too many pellets (fewer than the setting 3)");
        for (int most : new int[] {1, 2, 10}) {
            CaughtPellets x = new CaughtPellets();
            x.set(3, most);
            for (int i = 0; i < most; i++) {
                due.is(i + " of " + most, x.would(80, 400, 2), 0);
                x.load(80, 400);
                due.is("fire", x.fire(1, 500), 1);
            }
            holdsTooMany(x, most);
            due.is("one more may be held", x.set(3, most + 1), most);
            due.is("one fewer than the setting", x.would(80, 400, 2), 0);
            x.set(3, most);
            due.is("digOut()", x.digOut(), most * 80);
            due.is("none", x.would(80, 400, 2), 0);
        }
        due.of("3 it holds as many pellets as the setting 3 tells or more");
        CaughtPellets full = Scenes.fullBlock();
        holdsTooMany(full, 40);
        due.is("39 may be held", full.set(3, 39), 40);
        due.is("one more than the setting", full.would(80, 400, 2), 3);
        due.is("1 may be held", full.set(3, 1), 39);
        due.is("39 more than the setting", full.would(80, 400, 2), 3);
        CaughtPellets thirtyNine = Scenes.fullBlock();
        thirtyNine.block(4000);
        Scenes.loadText(thirtyNine, "8@400x9;8@400x9;8@400x2");
        thirtyNine.fire(20, 500);
        thirtyNine.forget();
        Scenes.loadText(thirtyNine, "8@400x9;8@400x9;8@400x2");
        due.is("19 of them", thirtyNine.fire(19, 500), 19);
        due.is("39 of 40", thirtyNine.would(80, 400, 2), 0);
        due.is("the 40th", thirtyNine.fire(1, 500), 1);
        holdsTooMany(thirtyNine, 40);
    }

    private void holdsTooMany(CaughtPellets x, int pellets) {
        due.is("pellets", x.count(2), pellets);
        due.is("as many as the setting, " + pellets, x.would(80, 400, 2), 3);
        due.is("no height", x.would(80, 400, 3), 0);
        due.is("no told speed", x.would(80, 400, 4), 0);
        x.load(80, 400);
        due.is("fire", x.fire(1, 500), 0);
        due.is("its reason", x.shot(x.count(7) - 1, 2), 3);
        due.is("pellets", x.count(2), pellets);
    }

    private void reasonsInTheirOrder() {
        due.of("The reasons for which a shot does not count are asked in this order");
        for (int bits = 0; bits < 8; bits++) {
            boolean swings = (bits & 1) != 0;
            boolean crooked = (bits & 2) != 0;
            boolean full = (bits & 4) != 0;
            CaughtPellets x = new CaughtPellets();
            x.cord(1, 2005);
            x.load(80, 400);
            x.fire(1, 0);
            if (!swings) {
                x.stop();
            }
            x.set(0, crooked ? 4 : 6);
            x.set(3, full ? 1 : 2);
            int reason = swings ? 1 : crooked ? 2 : full ? 3 : 0;
            due.is("would, bits " + bits, x.would(80, 400, 2), reason);
            x.load(80, 400);
            due.is("fire, bits " + bits, x.fire(1, 0), reason == 0 ? 1 : 0);
            due.is("reason, bits " + bits, x.shot(1, 2), reason);
        }
    }

    private void nothingIsCaughtOfAShotThatDoesNotCount() {
        due.of("A shot that does not count is fired all the same, but nothing of it is caught.");
        CaughtPellets swings = Scenes.swinging();
        notCaught(swings, 1);
        CaughtPellets crooked = Scenes.swinging();
        crooked.stop();
        crooked.cord(0, 2006);
        notCaught(crooked, 2);
        CaughtPellets full = Scenes.swinging();
        full.stop();
        full.set(3, 1);
        notCaught(full, 3);
    }

    private void notCaught(CaughtPellets x, int reason) {
        int height = x.count(4);
        x.load(2000, 900);
        due.is("fire", x.fire(1, 500), 0);
        int[] told = {2000, 900, reason, 0, 0, 0, 0, 40080};
        for (int what = 0; what < told.length; what++) {
            due.is("shot(1, " + what + "), reason " + reason, x.shot(1, what), told[what]);
        }
        due.is("shots that were fired", x.count(7), 2);
        due.is("those that do not count", x.count(8), 1);
        due.is("none waits", x.count(9), 0);
        due.is("what it holds", x.count(1), 80);
        due.is("its pellets", x.count(2), 1);
        due.is("caught so far", x.count(11), 80);
        due.is("its height", x.count(4), height);
        due.is("no half swing behind it", x.count(10), 0);
    }

    private void half(CaughtPellets x, int rubbing, int after) {
        int before = x.count(4);
        x.set(1, rubbing);
        x.set(2, 1);
        due.is("a half swing from " + before + " with " + rubbing, x.swing(1), after);
        due.is("its height", x.count(4), after);
    }

    /** It swings with a height of 999 to 1001, without rubbing from 1005. */
    private static CaughtPellets near1000(int height) {
        CaughtPellets x = new CaughtPellets();
        x.set(1, 0);
        x.load(20, 889);
        x.fire(1, 0);
        x.swing(x.count(4) - height);
        return x;
    }

    private void lossIsRoundedUp() {
        due.of("the height becomes less by height * rubbing / 1000, rounded up");
        half(near1000(1001), 20, 980);
        half(near1000(1000), 20, 980);
        half(near1000(999), 20, 979);
        half(near1000(1001), 1, 999);
        half(near1000(1000), 1, 999);
        half(near1000(999), 1, 998);
        half(near1000(1000), 499, 501);
        half(near1000(999), 499, 500);
        half(near1000(1001), 499, 501);
        half(near1000(1000), 500, 500);
        half(near1000(1001), 500, 500);
        half(near1000(999), 500, 499);
        half(Scenes.atGreatestHeight(), 500, 150000);
        half(Scenes.atGreatestHeight(), 499, 150300);
        half(Scenes.atGreatestHeight(), 1, 299700);
        half(Scenes.atGreatestHeight(), 0, 299999);
    }

    private void lossIsAtLeastOne() {
        due.of("but at least by 1 if the height is above 0");
        half(Scenes.atHeight(512), 0, 511);
        half(Scenes.atHeight(2), 0, 1);
        half(Scenes.atHeight(1), 0, 0);
        half(Scenes.atHeight(1), 1, 0);
        half(Scenes.atHeight(1), 500, 0);
        half(Scenes.atHeight(2), 500, 1);
        half(Scenes.atHeight(2), 1, 1);
        half(Scenes.atHeight(3), 500, 1);
        half(Scenes.atHeight(4), 500, 2);
        CaughtPellets x = new CaughtPellets();
        x.set(1, 0);
        due.is("a block at rest does no half swing", x.swing(1), -5);
        due.is("half swings", x.count(10), 0);
    }

    private void restJustBelowTheLeastHeight() {
        due.of("if it is less than the setting 2 then, the block is at rest, with the height 0.");
        int[] settings = {1, 2, 10, 499, 500};
        for (int least : settings) {
            CaughtPellets x = Scenes.atHeight(least + 1);
            x.set(2, least);
            due.is("just the setting " + least, x.swing(1), least);
            due.is("it swings", x.would(80, 400, 2), 1);
            due.is("less than the setting " + least, x.swing(1), 0);
            due.is("it is at rest", x.would(80, 400, 2), 0);
            due.is("at rest", x.swing(1), -5);
        }
        CaughtPellets x = Scenes.atHeight(512);
        x.set(2, 500);
        due.is("in one go, just the setting", x.swing(12), 500);
        due.is("in one go, less", x.swing(12), 0);
    }

    private void rootOfASquareAndJustBelowIt() {
        due.of("the whole number s whose square is at most h * 19613 / 100 (rounded down), as great as can be");
        // 196 and 784 are squares of 14 and 28.
        heightAndTold(10, 61, 1, 56);
        heightAndTold(10, 117, 4, 112);
        // 36480, 380688 and 508368 are 1 less than squares of 191, 617 and 713.
        heightAndTold(10, 765, 186, 760);
        heightAndTold(28, 883, 1941, 880);
        heightAndTold(32, 892, 2592, 890);
        // The greatest root there is: 7670, whose square is 58828900 of 58839000.
        CaughtPellets x = withLength(3000);
        heightAndTold(x, 2000, 900, 300000, 161);
    }

    private void toldSpeedIsRoundedDown() {
        due.of("then s * (M + m) / (m * 1000), rounded down.");
        // No rest.
        heightAndTold(50, 802, 5108, 801);
        heightAndTold(64, 314, 1279, 313);
        heightAndTold(64, 627, 5108, 626);
        heightAndTold(80, 502, 5108, 501);
        // Rests that are 2, 2 and 5 less than the divisor.
        heightAndTold(58, 644, 4428, 642);
        heightAndTold(66, 792, 8669, 790);
        heightAndTold(55, 663, 4222, 661);
    }

    private void toldSpeedIsFromTheFirstHeight() {
        due.of("The speed that is told of a shot that counts is from the first height");
        CaughtPellets x = new CaughtPellets();
        x.load(80, 400);
        due.is("fire(1, 5)", x.fire(1, 5), 1);
        due.is("the height is less already", x.count(4), 2932);
        due.is("the first height", x.shot(0, 3), 3246);
        due.is("the told speed", x.shot(0, 4), 399);
        x.swing(500);
        x.digOut();
        x.block(9000);
        x.cord(0, 2005);
        due.is("the first height stays", x.shot(0, 3), 3246);
        due.is("the told speed stays", x.shot(0, 4), 399);
        due.is("the block ahead of it stays", x.shot(0, 7), 40000);
    }

    private void wouldTellsOnly() {
        due.of("Tells what a shot would do if it was fired now.");
        for (int what = 2; what <= 4; what++) {
            int asked = what;
            int[] atRest = {0, 2049, 398};
            Unchanged.by(due, "would(80, 400, " + what + ")", Scenes::rich,
                x -> x.would(80, 400, asked) - atRest[asked - 2], 0);
            due.of("(0 for 3 and 4 if it would not count)");
            Unchanged.by(due, "would, it swings", Scenes::richSwinging,
                x -> x.would(80, 400, asked), what == 2 ? 1 : 0);
            Unchanged.by(due, "would, it is full", Scenes::fullBlock,
                x -> x.would(80, 400, asked), what == 2 ? 3 : 0);
            Unchanged.by(due, "would, 60 are fired", Scenes::fullOfShots,
                x -> x.would(80, 400, asked), what == 2 ? 3 : 0);
            Unchanged.by(due, "would, 20 wait", Scenes::twentyWait,
                x -> Math.min(1, x.would(80, 400, asked)), what == 2 ? 0 : 1);
        }
    }

    private void untilRest(CaughtPellets x, int rubbing, int least, int halves) {
        int height = x.count(4);
        x.set(1, rubbing);
        x.set(2, least);
        String name = "from " + height + " with " + rubbing + " and " + least;
        due.is("untilRest() " + name, x.untilRest(), halves);
        due.is("it tells only", x.count(4), height);
        for (int left = halves - 1; left > 0; left -= 500) {
            due.is("it swings on " + name, x.swing(Math.min(500, left)) > 0 ? 1 : 0, 1);
        }
        due.is("the last one " + name, x.untilRest(), 1);
        due.is("so many " + name, x.swing(1), 0);
        due.is("untilRest() at rest", x.untilRest(), -5);
    }

    private void halfSwingsUntilRest() {
        due.of("Tells how many half swings it takes until the block is at rest.");
        untilRest(Scenes.atHeight(1), 0, 1, 1);
        untilRest(Scenes.atHeight(1), 500, 500, 1);
        untilRest(Scenes.atHeight(2), 0, 1, 2);
        untilRest(Scenes.atHeight(2), 0, 2, 1);
        untilRest(Scenes.atHeight(2), 0, 3, 1);
        untilRest(Scenes.atHeight(3), 0, 2, 2);
        untilRest(Scenes.atHeight(500), 0, 1, 500);
        untilRest(Scenes.atHeight(501), 0, 500, 2);
        untilRest(Scenes.atHeight(500), 0, 500, 1);
        untilRest(Scenes.atHeight(499), 0, 500, 1);
        untilRest(Scenes.atHeight(512), 0, 10, 503);
        untilRest(Scenes.atHeight(512), 500, 1, 10);
        untilRest(Scenes.swinging(), 20, 10, 227);
        untilRest(Scenes.atGreatestHeight(), 20, 10, 451);
        untilRest(Scenes.atGreatestHeight(), 500, 1, 19);
        untilRest(Scenes.atGreatestHeight(), 500, 500, 10);
    }

    private void mostHalfSwingsUntilRest() {
        due.of("how many; NONE if it is at rest.");
        CaughtPellets x = Scenes.atGreatestHeight();
        x.set(1, 1);
        x.set(2, 1);
        due.is("rubbing 1, least 1", x.untilRest(), 6280);
        x.set(1, 0);
        due.is("rubbing 0, least 1", x.untilRest(), 300000);
        due.is("swing(500)", x.swing(500), 299500);
        due.is("rubbing 0, least 1", x.untilRest(), 299500);
        x.set(2, 500);
        due.is("rubbing 0, least 500", x.untilRest(), 299001);
    }
}
