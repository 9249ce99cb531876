import java.util.ArrayList;
import java.util.List;
import java.util.Random;

/** Long runs of calls, the same ones each time, answered by the class and by the model. */
public final class ModelRunsTest {
    private static final int RUNS = 6000;
    /** An object is promised for 512 calls: with the longest text, and all that is compared last, there are no more. */
    private static final int CALLS = 260;
    private static final int TEXTS = 60000;
    private static final int[] ODD = {
        Integer.MIN_VALUE, -101, -6, -2, -1, 0, 1, 2, 3, 4, 5, 6, 9, 10, 19, 20, 21, 59, 60, 61, 127, 128,
        255, 256, 499, 500, 501, 900, 901, 2000, 2001, 3000, 3001, 9000, 9001, 65536, Integer.MAX_VALUE,
    };
    private static final String[] PIECES = {
        "0", "1", "2", "5", "9", "20", "200", "199", "50", "49", "900", "901", "450", ".", ".0", ".5", "@", "x", "x2",
        "x1", "x9", ";", "@400", "8@400", "8.5@410x3", "200.0@900", "7@50", ";8@400", " ", "\u0660",
    };

    private final Random random;
    private final CaughtPellets x = new CaughtPellets();
    private final Model model = new Model();
    private final Due due;
    private final List<String> calls = new ArrayList<>();
    /** Runs differ by how often their arguments are out of range. */
    private final int odd;

    private ModelRunsTest(long seed, Due due) {
        random = new Random(seed);
        this.due = due;
        odd = 2 + random.nextInt(60);
    }

    public static void main(String[] args) {
        Due due = new Due();
        for (int run = 0; run < RUNS && due.wrong() == 0; run++) {
            new ModelRunsTest(run, due).run(run);
        }
        for (int text = 0; text < TEXTS && due.wrong() == 0; text++) {
            new ModelRunsTest(text, due).readText();
        }
        due.end();
    }

    private void run(int number) {
        while (calls.size() < CALLS && due.wrong() == 0) {
            call();
        }
        compareAll();
        due.is("calls of one object are not too many", Math.max(512, calls.size()), 512);
        if (due.wrong() != 0) {
            System.out.println("run " + number + ":");
            calls.forEach(System.out::println);
        }
    }

    private void readText() {
        String text = random.nextBoolean() ? goodText() : anyText();
        type(text);
        is("loadAll() of " + text, x.loadAll(), model.loadAll());
        is("count(9)", x.count(9), model.count(9));
    }

    private void is(String call, int got, int want) {
        calls.add(call + " " + got);
        due.is(call, got, want);
    }

    private int in(int least, int most) {
        if (random.nextInt(odd) == 0) {
            return ODD[random.nextInt(ODD.length)];
        }
        int kind = random.nextInt(20);
        if (kind == 0) {
            return least;
        }
        return kind == 1 ? most : least + random.nextInt(most - least + 1);
    }

    private void type(String text) {
        for (char c : text.toCharArray()) {
            is("type(" + (int) c + ")", x.type(c), model.type(c));
        }
    }

    private String anyText() {
        StringBuilder text = new StringBuilder();
        int pieces = random.nextInt(8);
        for (int i = 0; i < pieces; i++) {
            text.append(PIECES[random.nextInt(PIECES.length)]);
        }
        return text.toString();
    }

    /** Shots without a fault, but now and then with one character that is changed. */
    private String goodText() {
        StringBuilder text = new StringBuilder();
        int shots = 1 + random.nextInt(5);
        for (int i = 0; i < shots; i++) {
            text.append(i == 0 ? "" : ";").append(1 + random.nextInt(199));
            text.append(random.nextBoolean() ? "." + random.nextInt(10) : "");
            text.append("@").append(50 + random.nextInt(851));
            text.append(random.nextInt(3) == 0 ? "x" + (2 + random.nextInt(8)) : "");
        }
        if (random.nextInt(3) == 0) {
            text.setCharAt(random.nextInt(text.length()), "0123456789.@x; ".charAt(random.nextInt(15)));
        }
        return text.toString();
    }

    private void call() {
        int kind = random.nextInt(100);
        if (kind < 18) {
            callOfBlock();
        } else if (kind < 50) {
            callOfRow();
        } else if (kind < 65) {
            callOfSeries();
        } else if (kind < 75) {
            callOfHistory();
        } else {
            ask();
        }
    }

    private void callOfBlock() {
        int a;
        int b;
        switch (random.nextInt(9)) {
            case 0: a = in(1000, 9000); is("block(" + a + ")", x.block(a), model.block(a)); break;
            case 1: is("digOut()", x.digOut(), model.digOut()); break;
            case 2:
                a = in(0, 3);
                b = random.nextInt(6) == 0 ? in(500, 3000) : in(1998, 2004);
                is("cord(" + a + ", " + b + ")", x.cord(a, b), model.cord(a, b));
                break;
            case 3:
                a = in(0, 3);
                b = random.nextBoolean() ? in(0, 50) : in(1, 500);
                is("set(" + a + ", " + b + ")", x.set(a, b), model.set(a, b));
                break;
            case 4: case 5:
                a = in(1, random.nextBoolean() ? 500 : 10);
                is("swing(" + a + ")", x.swing(a), model.swing(a));
                break;
            default: is("stop()", x.stop(), model.stop()); break;
        }
    }

    private void callOfRow() {
        int a;
        int b;
        switch (random.nextInt(10)) {
            case 0: case 1: case 2:
                a = random.nextBoolean() ? in(10, 2000) : in(70, 90);
                b = random.nextBoolean() ? in(50, 900) : in(380, 420);
                is("load(" + a + ", " + b + ")", x.load(a, b), model.load(a, b));
                break;
            case 3:
                is("clearText()", x.clearText(), model.clearText());
                type(random.nextBoolean() ? goodText() : anyText());
                break;
            case 4: is("loadAll()", x.loadAll(), model.loadAll()); break;
            case 5: a = in(10, 100); is("unload(" + a + ")", x.unload(a), model.unload(a)); break;
            default:
                a = in(1, random.nextInt(4) == 0 ? 20 : 2);
                b = in(random.nextBoolean() ? 500 : 0, 500);
                is("fire(" + a + ", " + b + ")", x.fire(a, b), model.fire(a, b));
                break;
        }
    }

    private void callOfSeries() {
        int a;
        int b;
        switch (random.nextInt(12)) {
            case 0: if (random.nextInt(4) == 0) { is("forget()", x.forget(), model.forget()); } break;
            case 1: is("clean()", x.clean(), model.clean()); break;
            case 2: a = in(1, 200); is("setLimit(" + a + ")", x.setLimit(a), model.setLimit(a)); break;
            case 3: case 4: case 5:
                a = in(350, 450);
                b = in(0, 100);
                is("keepStandard(" + a + ", " + b + ")", x.keepStandard(a, b), model.keepStandard(a, b));
                break;
            case 6: a = in(0, 4); is("dropStandard(" + a + ")", x.dropStandard(a), model.dropStandard(a)); break;
            default:
                a = in(0, Math.max(0, model.count(7)));
                boolean struck = random.nextBoolean();
                is("strike(" + a + ", " + struck + ")", x.strike(a, struck), model.strike(a, struck));
                break;
        }
    }

    private void callOfHistory() {
        switch (random.nextInt(4)) {
            case 0: is("keep()", x.keep(), model.keep()); break;
            case 1: if (random.nextInt(3) == 0) { is("restore()", x.restore(), model.restore()); } break;
            default: is("undo()", x.undo(), model.undo()); break;
        }
    }

    private void ask() {
        int a = in(0, Math.max(1, model.count(7)));
        int b = in(0, 7);
        boolean speed = random.nextBoolean();
        is("shot(" + a + ", " + b + ")", x.shot(a, b), model.shot(a, b));
        a = in(0, 20);
        is("waiting(" + a + ", " + speed + ")", x.waiting(a, speed), model.waiting(a, speed));
        is("count(" + a + ")", x.count(a), model.count(a));
        b = in(0, 6);
        is("series(" + b + ")", x.series(b), model.series(b));
        a = in(0, 4);
        b = in(0, 3);
        is("standard(" + a + ", " + b + ")", x.standard(a, b), model.standard(a, b));
        is("lengthOf(" + b + ")", x.lengthOf(b), model.lengthOf(b));
        a = in(10, 2000);
        b = in(50, 900);
        int what = in(2, 4);
        is("would(" + a + ", " + b + ", " + what + ")", x.would(a, b, what), model.would(a, b, what));
        is("untilRest()", x.untilRest(), model.untilRest());
    }

    private void compareAll() {
        for (int what = -1; what <= 21; what++) {
            is("count(" + what + ")", x.count(what), model.count(what));
        }
        for (int what = -1; what <= 7; what++) {
            is("series(" + what + ")", x.series(what), model.series(what));
        }
        int step = 1 + random.nextInt(7);
        for (int shot = random.nextInt(step); shot < model.count(7); shot += Math.max(step, model.count(7) / 10)) {
            for (int what = 0; what <= 7; what++) {
                is("shot(" + shot + ", " + what + ")", x.shot(shot, what), model.shot(shot, what));
            }
        }
        for (int standard = 0; standard < model.count(13); standard++) {
            for (int what = 0; what <= 3; what++) {
                is("standard(" + standard + ", " + what + ")",
                    x.standard(standard, what), model.standard(standard, what));
            }
        }
        for (int place = 0; place <= model.count(9); place++) {
            is("waiting(" + place + ", false)", x.waiting(place, false), model.waiting(place, false));
            is("waiting(" + place + ", true)", x.waiting(place, true), model.waiting(place, true));
        }
    }
}
