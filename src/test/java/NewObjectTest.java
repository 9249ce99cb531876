/** Promise 1: a new object. */
public final class NewObjectTest {
    private static final int[] COUNTS = {
        4000, 0, 0, 40000, 0, 2000, 1, 0, 0, 0, 0, 0, 0, 0, 30, 5, 20, 10, 10, 0, 0,
    };

    private NewObjectTest() {
    }

    public static void main(String[] args) {
        Due due = new Due();
        due.of("`CaughtPellets()`: Creates a block at rest.");
        CaughtPellets x = new CaughtPellets();
        for (int what = 0; what < COUNTS.length; what++) {
            due.is("count(" + what + ")", x.count(what), COUNTS[what]);
        }
        for (int cord = 0; cord < 4; cord++) {
            due.is("lengthOf(" + cord + ")", x.lengthOf(cord), 2000);
        }
        due.is("untilRest()", x.untilRest(), -5);
        due.is("stop()", x.stop(), -5);
        due.is("undo()", x.undo(), -5);
        due.is("restore()", x.restore(), -5);
        due.is("shot(0, 0)", x.shot(0, 0), -1);
        due.is("waiting(0, false)", x.waiting(0, false), -5);
        due.is("standard(0, 0)", x.standard(0, 0), -1);
        due.is("series(0)", x.series(0), 0);
        twoObjectsShareNothing(due);
        due.end();
    }

    private static void twoObjectsShareNothing(Due due) {
        CaughtPellets one = new CaughtPellets();
        CaughtPellets other = new CaughtPellets();
        one.cord(0, 1999);
        one.set(0, 7);
        one.load(80, 400);
        one.type('a');
        one.keep();
        due.same("another object", Told.everything(other), Told.everything(new CaughtPellets()));
        due.is("restore() of another object", other.restore(), -5);
    }
}
