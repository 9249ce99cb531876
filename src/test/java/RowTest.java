/** Promises 8, 10 and 24: load, unload, waiting. */
public final class RowTest {
    private RowTest() {
    }

    public static void main(String[] args) {
        Due due = new Due();
        shotsAreLoaded(due);
        loadIsRefused(due);
        shotsAreUnloaded(due);
        unloadIsRefused(due);
        waitingIsTold(due);
        due.end();
    }

    private static void shotsAreLoaded(Due due) {
        due.of("Returns how many wait then; BAD_VALUE; FULL if 20 wait.");
        CaughtPellets x = new CaughtPellets();
        due.is("load(10, 50)", x.load(10, 50), 1);
        due.is("load(2000, 900)", x.load(2000, 900), 2);
        due.is("load(10, 900)", x.load(10, 900), 3);
        due.is("load(2000, 50)", x.load(2000, 50), 4);
        due.of("`int load(int mass, int speed)`: Puts a shot behind the row. This is an act.");
        due.is("first mass", x.waiting(0, false), 10);
        due.is("first speed", x.waiting(0, true), 50);
        due.is("second mass", x.waiting(1, false), 2000);
        due.is("second speed", x.waiting(1, true), 900);
        due.is("undo()", x.undo(), 3);
        due.is("count(9)", x.count(9), 3);
        due.is("nothing is fired", x.count(7), 0);
        due.is("nothing is caught", x.count(1), 0);
    }

    private static void loadIsRefused(Due due) {
        due.of("- `mass`: 10 to 2000, in tenths of grams");
        CaughtPellets x = new CaughtPellets();
        due.is("load(9, 50)", x.load(9, 50), -2);
        due.is("load(2001, 50)", x.load(2001, 50), -2);
        due.of("- `speed`: 50 to 900");
        due.is("load(10, 49)", x.load(10, 49), -2);
        due.is("load(10, 901)", x.load(10, 901), -2);
        due.is("load(MIN, MAX)", x.load(Integer.MIN_VALUE, Integer.MAX_VALUE), -2);
        due.same("nothing is changed", Told.everything(x), Told.everything(new CaughtPellets()));
        due.of("At most 20 shots wait in a row, each with a mass and a speed.");
        for (int i = 0; i < 20; i++) {
            due.is("load", x.load(10 + i, 50 + i), i + 1);
        }
        due.is("one more", x.load(10, 50), -3);
        due.is("one more, with a bad mass", x.load(9, 50), -2);
        due.is("one more, with a bad speed", x.load(10, 901), -2);
        due.is("count(9)", x.count(9), 20);
        due.is("the last one", x.waiting(19, false), 29);
        due.is("undo()", x.undo(), 3);
        due.is("there is room again", x.load(10, 50), 20);
    }

    private static CaughtPellets five() {
        CaughtPellets x = new CaughtPellets();
        x.load(100, 101);
        x.load(50, 102);
        x.load(99, 103);
        x.load(101, 104);
        x.load(100, 105);
        return x;
    }

    private static void shotsAreUnloaded(Due due) {
        due.of("`int unload(int mass)`: Unloads shots: those with some mass and less. This is an act.");
        CaughtPellets x = five();
        due.is("unload(99)", x.unload(99), 2);
        due.is("count(9)", x.count(9), 3);
        due.is("the first one", x.waiting(0, true), 101);
        due.is("the second one", x.waiting(1, true), 104);
        due.is("its mass", x.waiting(1, false), 101);
        due.is("the third one", x.waiting(2, true), 105);
        due.is("unload(100)", x.unload(100), 2);
        due.is("the first one", x.waiting(0, true), 104);
        due.is("undo()", x.undo(), 3);
        due.is("undo()", x.undo(), 2);
        due.is("the second one", x.waiting(1, true), 102);
        due.is("unload(2000)", x.unload(2000), 5);
        due.is("count(9)", x.count(9), 0);
        due.is("nothing is fired", x.count(7), 0);
    }

    private static void unloadIsRefused(Due due) {
        due.of("Returns how many are unloaded; BAD_VALUE; NONE if there is none.");
        CaughtPellets x = five();
        due.is("unload(49)", x.unload(49), -5);
        due.is("unload(10)", x.unload(10), -5);
        due.of("- `mass`: 10 to 2000");
        due.is("unload(9)", x.unload(9), -2);
        due.is("unload(2001)", x.unload(2001), -2);
        due.same("nothing is changed", Told.everything(x), Told.everything(five()));
        due.is("unload(50)", x.unload(50), 1);
        x.load(10, 50);
        due.is("unload(10)", x.unload(10), 1);
        CaughtPellets y = new CaughtPellets();
        due.is("unload(2000) of none", y.unload(2000), -5);
        due.is("unload(2001) of none", y.unload(2001), -2);
    }

    private static void waitingIsTold(Due due) {
        due.of("- `speed`: whether the speed is told, otherwise the mass");
        CaughtPellets x = five();
        due.is("waiting(4, false)", x.waiting(4, false), 100);
        due.is("waiting(4, true)", x.waiting(4, true), 105);
        due.of("Returns the number; BAD_VALUE if place is negative; NONE if there are not so many.");
        due.is("waiting(5, true)", x.waiting(5, true), -5);
        due.is("waiting(20, true)", x.waiting(20, true), -5);
        due.is("waiting(MAX, false)", x.waiting(Integer.MAX_VALUE, false), -5);
        due.is("waiting(-1, true)", x.waiting(-1, true), -2);
        due.is("waiting(MIN, true)", x.waiting(Integer.MIN_VALUE, true), -2);
        due.of("`int waiting(int place, boolean speed)`: - `place`: a place in the row, from 0");
        due.is("fire(2, 0)", x.fire(2, 0), 1);
        due.is("the third is the first now", x.waiting(0, true), 103);
        due.is("its mass", x.waiting(0, false), 99);
        due.is("waiting(3, true)", x.waiting(3, true), -5);
    }
}
