import java.util.ArrayList;
import java.util.Arrays;
import java.util.List;

/**
 * What an object tells: for tests of calls that change nothing, or that bring something back.
 * An object is promised for 512 calls, so it is asked for no more than it can have.
 */
final class Told {
    private Told() {
    }

    /** All that is told of the state: nothing of the text and the history. */
    static List<Integer> state(CaughtPellets x) {
        List<Integer> told = stateWithoutShots(x);
        told.addAll(shots(x, 0, 59));
        return told;
    }

    static List<Integer> stateWithoutShots(CaughtPellets x) {
        List<Integer> told = new ArrayList<>();
        for (int what = 0; what <= 18; what++) {
            told.add(x.count(what));
        }
        for (int cord = 0; cord < 4; cord++) {
            told.add(x.lengthOf(cord));
        }
        for (int what = 0; what <= 6; what++) {
            told.add(x.series(what));
        }
        for (int standard = 0; standard < x.count(13); standard++) {
            for (int what = 0; what <= 3; what++) {
                told.add(x.standard(standard, what));
            }
        }
        for (int place = 0; place < x.count(9); place++) {
            told.add(x.waiting(place, false));
            told.add(x.waiting(place, true));
        }
        for (int what = 2; what <= 4; what++) {
            told.add(x.would(75, 333, what));
        }
        told.add(x.untilRest());
        return told;
    }

    /** The shots from one number to another one, as far as there are such. */
    static List<Integer> shots(CaughtPellets x, int first, int last) {
        List<Integer> told = new ArrayList<>();
        int end = Math.min(last + 1, x.count(7));
        for (int shot = first; shot < end; shot++) {
            for (int what = 0; what <= 7; what++) {
                told.add(x.shot(shot, what));
            }
        }
        return told;
    }

    /** The state, the states in the history and the length of the text. */
    static List<Integer> everything(CaughtPellets x) {
        List<Integer> told = state(x);
        told.add(x.count(19));
        told.add(x.count(20));
        return told;
    }

    static void write(CaughtPellets x, String text) {
        x.clearText();
        for (int i = 0; i < text.length(); i++) {
            x.type(text.charAt(i));
        }
    }

    /** Fires shots of 8 grams one by one at the block at rest, each with a speed. */
    static void fireEach(CaughtPellets x, int... speeds) {
        for (int speed : speeds) {
            x.load(80, speed);
            x.fire(1, 0);
            x.stop();
        }
    }

    static String firstDifference(List<Integer> one, List<Integer> other) {
        for (int i = 0; i < Math.min(one.size(), other.size()); i++) {
            if (!one.get(i).equals(other.get(i))) {
                return "at " + i + ": " + one.get(i) + " and " + other.get(i);
            }
        }
        return "lengths " + Arrays.asList(one.size(), other.size());
    }
}
