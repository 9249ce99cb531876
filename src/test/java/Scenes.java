/** Objects in states that tests of bounds begin with. */
final class Scenes {
    private Scenes() {
    }

    static CaughtPellets fresh() {
        return new CaughtPellets();
    }

    /** It swings with the height 3246. */
    static CaughtPellets swinging() {
        CaughtPellets x = new CaughtPellets();
        x.load(80, 400);
        x.fire(1, 0);
        return x;
    }

    /** It swings with a height of 1 to 512; the rubbing is 0, the least height 1. */
    static CaughtPellets atHeight(int height) {
        CaughtPellets x = new CaughtPellets();
        x.set(1, 0);
        x.set(2, 1);
        x.load(15, 846);
        x.fire(1, 0);
        for (int left = 512 - height; left > 0; left -= 500) {
            x.swing(Math.min(500, left));
        }
        return x;
    }

    /** It swings with the height 300000, which is the greatest one. */
    static CaughtPellets atGreatestHeight() {
        CaughtPellets x = new CaughtPellets();
        for (int cord = 0; cord < 4; cord++) {
            x.cord(cord, 3000);
        }
        x.block(1000);
        x.load(2000, 900);
        x.fire(1, 0);
        return x;
    }

    /** At rest, with something of everything: shots, standards, a row, a text, a snapshot and a full history. */
    static CaughtPellets rich() {
        CaughtPellets x = new CaughtPellets();
        x.cord(2, 2003);
        x.block(5000);
        x.keepStandard(400, 20);
        x.keepStandard(500, 10);
        Told.fireEach(x, 400, 440, 300);
        x.set(1, 30);
        x.load(80, 400);
        x.load(90, 410);
        x.fire(2, 0);
        x.keep();
        x.stop();
        x.load(70, 390);
        x.load(75, 420);
        x.load(2000, 900);
        x.strike(1, true);
        x.setLimit(40);
        Told.write(x, "5@50x3;7.5@420");
        return x;
    }

    static CaughtPellets richSwinging() {
        CaughtPellets x = rich();
        x.fire(1, 1);
        return x;
    }

    /** As the rich one, but with 20 shots that wait. */
    static CaughtPellets fullRow() {
        CaughtPellets x = rich();
        loadText(x, "20@300x9;20.1@301x8");
        return x;
    }

    /** 20 shots wait on a new object. */
    static CaughtPellets twentyWait() {
        CaughtPellets x = new CaughtPellets();
        loadText(x, "8@400x9;8@400x9;8@400x2");
        return x;
    }

    /** 60 shots were fired, 40 of them are caught and 20 do not count; 2 wait. */
    static CaughtPellets fullOfShots() {
        CaughtPellets x = fullBlock();
        x.loadAll();
        x.fire(20, 0);
        x.load(70, 390);
        x.load(75, 420);
        return x;
    }

    /** 40 pellets of 200 grams are in the block, which is at rest and holds no more. */
    static CaughtPellets fullBlock() {
        CaughtPellets x = new CaughtPellets();
        x.set(3, 40);
        Told.write(x, "200@900x9;200@900x9;200@900x2");
        x.loadAll();
        x.fire(20, 500);
        x.loadAll();
        x.fire(20, 500);
        return x;
    }

    static CaughtPellets fullOfStandards() {
        CaughtPellets x = rich();
        x.keepStandard(50, 0);
        x.keepStandard(900, 100);
        x.keepStandard(395, 7);
        return x;
    }

    static CaughtPellets fullText() {
        CaughtPellets x = rich();
        Told.write(x, "1@50;1@51;1@52;1@53;1@54;1@55;1@56;1@57;1@58;1@59;1@60;1@610");
        return x;
    }

    static void loadText(CaughtPellets x, String text) {
        Told.write(x, text);
        x.loadAll();
    }

    /**
     * Fires shots at a block of 4000 grams that holds nothing, so that these speeds are told of them.
     * (The told speed of 8 grams is then 1 less than the speed, but for the told speeds 250 and 751.)
     */
    static CaughtPellets series(int... toldSpeeds) {
        CaughtPellets x = new CaughtPellets();
        addToSeries(x, toldSpeeds);
        return x;
    }

    static void addToSeries(CaughtPellets x, int... toldSpeeds) {
        for (int told : toldSpeeds) {
            x.load(80, told + 1);
            x.fire(1, 0);
            x.stop();
            x.digOut();
        }
    }
}
