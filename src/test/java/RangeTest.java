import java.util.function.Supplier;

/**
 * Every range that the document names: the value just inside and the value
 * just outside of each end, and far outside of it (also such values as would be
 * inside if they were cut to a short or a byte). A refused call changes nothing.
 */
public final class RangeTest {
    private static final int UNKNOWN = -1;
    private static final int BAD_VALUE = -2;
    private static final int[] SETTING_LEAST = {0, 0, 1, 1};
    private static final int[] SETTING_MOST = {50, 500, 500, 40};

    private final Due due = new Due();

    private RangeTest() {
    }

    public static void main(String[] args) {
        RangeTest test = new RangeTest();
        test.rangesOfTheBlock();
        test.rangesOfTheSettings();
        test.rangesOfShots();
        test.rangesOfFire();
        test.rangesOfTheLimitAndOfStandards();
        test.numbersOfShotsThatWereFired();
        test.numbersOfStandards();
        test.numbersOfQuestions();
        test.placesInTheRow();
        test.due.end();
    }

    private interface Call {
        int on(CaughtPellets x, int value);
    }

    /** The call is asked on new objects; inside it answers a number that is no error. */
    private void range(String name, Supplier<CaughtPellets> making, Call call, int least, int most, int error) {
        for (int value : new int[] {least, least + 1, most - 1, most}) {
            if (value >= least && value <= most) {
                int answer = call.on(making.get(), value);
                due.is(name + ", " + value + " answered " + answer + ": no error", Math.min(answer, 0), 0);
            }
        }
        int[] outside = {
            least - 1, most + 1, least - 256, most + 256, least - 65536, most - 65536, least + 65536, most + 65536,
            -least - 1, -most - 1, Integer.MIN_VALUE, Integer.MIN_VALUE + most, Integer.MAX_VALUE,
        };
        for (int value : outside) {
            if (value < least || value > most) {
                Unchanged.by(due, name + ", " + value, making, x -> call.on(x, value), error);
            }
        }
    }

    private void rangesOfTheBlock() {
        due.of("The block has a mass (1000 to 9000 grams; 4000 at first)");
        range("block", Scenes::rich, (x, mass) -> x.block(mass), 1000, 9000, BAD_VALUE);
        due.of("It hangs by 4 cords, numbered from 0");
        range("cord", Scenes::rich, (x, cord) -> x.cord(cord, 2500), 0, 3, UNKNOWN);
        range("lengthOf", Scenes::rich, (x, cord) -> x.lengthOf(cord), 0, 3, UNKNOWN);
        due.of("each with a length (500 to 3000 millimetres; 2000 at first)");
        for (int cord = 0; cord < 4; cord++) {
            int number = cord;
            range("cord " + cord, Scenes::rich, (x, length) -> x.cord(number, length), 500, 3000, BAD_VALUE);
        }
        due.of("1 to 500: so many at most");
        range("swing", Scenes::richSwinging, (x, halves) -> x.swing(halves), 1, 500, BAD_VALUE);
    }

    private void rangesOfTheSettings() {
        due.of("Sets a setting.");
        range("set", Scenes::rich, (x, which) -> x.set(which, 40), 0, 3, BAD_VALUE);
        String[] sentences = {
            "0 how much cords may differ (0 to 50; 5)",
            "in thousandths of the height lost by each half swing (0 to 500; 20)",
            "in hundredths of millimetres (1 to 500; 10)",
            "3 the most pellets that a block holds before it is dug out (1 to 40; 10)",
        };
        for (int which = 0; which < 4; which++) {
            int number = which;
            due.of(sentences[which]);
            range("set " + which, Scenes::rich, (x, value) -> x.set(number, value),
                SETTING_LEAST[which], SETTING_MOST[which], BAD_VALUE);
        }
    }

    private void rangesOfShots() {
        due.of("A pellet has a mass m in tenths of grams (10 to 2000)");
        range("load, mass", Scenes::rich, (x, mass) -> x.load(mass, 400), 10, 2000, BAD_VALUE);
        for (int what = 2; what <= 4; what++) {
            int asked = what;
            range("would, mass", Scenes::rich, (x, mass) -> x.would(mass, 400, asked), 10, 2000, BAD_VALUE);
        }
        due.of("and a speed v in metres per second (50 to 900)");
        range("load, speed", Scenes::rich, (x, speed) -> x.load(80, speed), 50, 900, BAD_VALUE);
        for (int what = 2; what <= 4; what++) {
            int asked = what;
            range("would, speed", Scenes::rich, (x, speed) -> x.would(80, speed, asked), 50, 900, BAD_VALUE);
        }
        due.of("Unloads shots: those with some mass and less.");
        range("unload", RangeTest::withALightPellet, (x, mass) -> x.unload(mass), 10, 2000, BAD_VALUE);
    }

    private static CaughtPellets withALightPellet() {
        CaughtPellets x = Scenes.rich();
        x.load(10, 50);
        return x;
    }

    private void rangesOfFire() {
        due.of("1 to 20: so many, or as many as wait");
        range("fire, shots, one waits", Scenes::rich, (x, shots) -> x.fire(shots, 0), 1, 20, BAD_VALUE);
        range("fire, shots, 20 wait", Scenes::twentyWait, (x, shots) -> x.fire(shots, 0), 1, 20, BAD_VALUE);
        due.of("0 to 500: the half swings behind each shot that counts");
        range("fire, halves", Scenes::rich, (x, halves) -> x.fire(1, halves), 0, 500, BAD_VALUE);
    }

    private void rangesOfTheLimitAndOfStandards() {
        due.of("the limit (1 to 200; 30 at first)");
        range("setLimit", Scenes::rich, (x, limit) -> x.setLimit(limit), 1, 200, BAD_VALUE);
        due.of("Keeps a standard.");
        range("keepStandard, speed", Scenes::rich, (x, speed) -> x.keepStandard(speed, 9), 50, 900, BAD_VALUE);
        range("keepStandard, tolerance", Scenes::rich, (x, most) -> x.keepStandard(400, most), 0, 100, BAD_VALUE);
    }

    private void numbersOfShotsThatWereFired() {
        due.of("Shots that were fired are numbered from 0 in their order (at most 60)");
        for (int what = 0; what <= 7; what++) {
            int asked = what;
            range("shot, 5 are fired", Scenes::rich, (x, shot) -> x.shot(shot, asked), 0, 4, UNKNOWN);
        }
        range("shot, 60 are fired", Scenes::fullOfShots, (x, shot) -> x.shot(shot, 0), 0, 59, UNKNOWN);
        due.of("Strikes a shot, or takes that back.");
        Supplier<CaughtPellets> three = () -> Scenes.series(400, 410, 420);
        range("strike, 3 are fired", three, (x, shot) -> x.strike(shot, true), 0, 2, UNKNOWN);
        range("take back", three, (x, shot) -> x.strike(shot, true) >= 0 ? x.strike(shot, false) : UNKNOWN,
            0, 2, UNKNOWN);
        for (int shot : new int[] {0, 1, 59, 60, -1, Integer.MAX_VALUE, Integer.MIN_VALUE}) {
            due.of("UNKNOWN = -1");
            Unchanged.by(due, "shot(" + shot + ", 0) of none", Scenes::fresh, x -> x.shot(shot, 0), UNKNOWN);
            Unchanged.by(due, "strike(" + shot + ", true) of none", Scenes::fresh, x -> x.strike(shot, true), UNKNOWN);
            Unchanged.by(due, "strike(" + shot + ", false) of none", Scenes::fresh, x -> x.strike(shot, false), UNKNOWN);
        }
    }

    private void numbersOfStandards() {
        due.of("at most 5 are kept, numbered from 0");
        range("dropStandard, 2 are kept", Scenes::rich, (x, number) -> x.dropStandard(number), 0, 1, UNKNOWN);
        range("dropStandard, 5 are kept", Scenes::fullOfStandards, (x, number) -> x.dropStandard(number), 0, 4, UNKNOWN);
        for (int what = 0; what <= 3; what++) {
            int asked = what;
            range("standard, 2 are kept", Scenes::rich, (x, number) -> x.standard(number, asked), 0, 1, UNKNOWN);
            range("standard, 5 are kept", Scenes::fullOfStandards, (x, number) -> x.standard(number, asked),
                0, 4, UNKNOWN);
        }
        for (int number : new int[] {0, 1, 4, 5, -1, Integer.MAX_VALUE, Integer.MIN_VALUE}) {
            Unchanged.by(due, "dropStandard(" + number + ") of none", Scenes::fresh, x -> x.dropStandard(number), UNKNOWN);
            Unchanged.by(due, "standard(" + number + ", 0) of none", Scenes::fresh, x -> x.standard(number, 0), UNKNOWN);
        }
    }

    private void numbersOfQuestions() {
        due.of("0 for its mass, 1 for its speed, 2 for the reason");
        for (int shot = 0; shot <= 4; shot++) {
            int asked = shot;
            range("shot " + shot, Scenes::rich, (x, what) -> x.shot(asked, what), 0, 7, BAD_VALUE);
        }
        due.of("2 for the reason, 3 for the first height, 4 for the told speed");
        range("would", Scenes::rich, (x, what) -> x.would(80, 400, what), 2, 4, BAD_VALUE);
        range("would, it swings", Scenes::richSwinging, (x, what) -> x.would(80, 400, what), 2, 4, BAD_VALUE);
        due.of("0 for its shots, 1 for its mean (NONE without shots)");
        range("series", Scenes::rich, (x, what) -> x.series(what), 0, 6, BAD_VALUE);
        due.of("0 for its speed, 1 for its tolerance");
        range("standard", Scenes::rich, (x, what) -> x.standard(1, what), 0, 3, BAD_VALUE);
        due.of("0 for the mass of the block");
        range("count", Scenes::rich, (x, what) -> x.count(what), 0, 20, BAD_VALUE);
        range("count of a new object", Scenes::fresh, (x, what) -> x.count(what), 0, 20, BAD_VALUE);
        due.of("4 for its first shot (NONE without one)");
        for (int what : new int[] {-1, 7, Integer.MIN_VALUE, Integer.MAX_VALUE}) {
            Unchanged.by(due, "series(" + what + ") without shots", Scenes::fresh, x -> x.series(what), BAD_VALUE);
        }
    }

    private void placesInTheRow() {
        due.of("BAD_VALUE if place is negative; NONE if there are not so many.");
        for (boolean speed : new boolean[] {false, true}) {
            for (int place : new int[] {-1, -2, -20, -65536, Integer.MIN_VALUE}) {
                Unchanged.by(due, "waiting(" + place + ")", Scenes::rich, x -> x.waiting(place, speed), BAD_VALUE);
                Unchanged.by(due, "waiting(" + place + ")", Scenes::fresh, x -> x.waiting(place, speed), BAD_VALUE);
            }
            for (int place : new int[] {3, 4, 19, 20, 21, 256, 65536, Integer.MAX_VALUE}) {
                Unchanged.by(due, "waiting(" + place + ")", Scenes::rich, x -> x.waiting(place, speed), -5);
                Unchanged.by(due, "waiting(" + place + ")", Scenes::fresh, x -> x.waiting(place, speed), -5);
            }
            for (int place : new int[] {20, 21, Integer.MAX_VALUE}) {
                Unchanged.by(due, "waiting(" + place + "), full", Scenes::fullRow, x -> x.waiting(place, speed), -5);
            }
        }
        due.is("the first place, mass", Scenes.fullRow().waiting(0, false), 70);
        due.is("the first place, speed", Scenes.fullRow().waiting(0, true), 390);
        due.is("the last place of three, mass", Scenes.rich().waiting(2, false), 2000);
        due.is("the last place of three, speed", Scenes.rich().waiting(2, true), 900);
        due.is("the last place of 20, mass", Scenes.fullRow().waiting(19, false), 201);
        due.is("the last place of 20, speed", Scenes.fullRow().waiting(19, true), 301);
    }
}
