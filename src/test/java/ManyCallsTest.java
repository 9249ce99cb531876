import java.util.Random;

/**
 * What calls answer behind the 512th is free, but "no call may ever throw or
 * fail to end, for any arguments in any state" (rule 7 of LANGUAGE.md).
 */
public final class ManyCallsTest {
    private static final int CALLS = 400000;
    private static final int[] ODD = {
        Integer.MIN_VALUE, Integer.MIN_VALUE + 1, -65536, -256, -100, -1, 0, 1, 2, 4, 5, 20, 21, 60, 61, 500, 501,
        2000, 3000, 9000, 65536, Integer.MAX_VALUE - 1, Integer.MAX_VALUE,
    };

    private final Random random = new Random(1);
    private final CaughtPellets x = new CaughtPellets();

    private ManyCallsTest() {
    }

    public static void main(String[] args) {
        Due due = new Due();
        ManyCallsTest test = new ManyCallsTest();
        int least = 0;
        for (int i = 0; i < CALLS; i++) {
            int answer = test.call(i % 32);
            least = Math.min(least, answer < -5 ? answer + 160 : 0);
        }
        due.is("no answer is below -160", least, 0);
        due.end();
    }

    private int any() {
        return random.nextInt(4) == 0 ? ODD[random.nextInt(ODD.length)] : random.nextInt(random.nextBoolean() ? 1000 : 5);
    }

    private int call(int kind) {
        switch (kind) {
            case 0: return x.block(1000 + any());
            case 1: return x.digOut();
            case 2: return x.cord(any(), 1999 + random.nextInt(3));
            case 3: return x.set(any(), any());
            case 4: return x.swing(any());
            case 5: return x.stop();
            case 6: return x.load(any(), any());
            case 7: return x.loadAll();
            case 8: return x.unload(any());
            case 9: return x.fire(any(), any());
            case 10: return x.strike(any(), random.nextBoolean());
            case 11: return x.clean();
            case 12: return random.nextInt(20) == 0 ? x.forget() : 0;
            case 13: return x.setLimit(any());
            case 14: return x.keepStandard(any(), any());
            case 15: return x.dropStandard(any());
            case 16: return x.type("5@60x3;.7".charAt(random.nextInt(9)));
            case 17: return random.nextInt(20) == 0 ? x.clearText() : 0;
            case 18: return x.undo();
            case 19: return x.keep();
            case 20: return x.restore();
            case 21: return x.shot(any(), any());
            case 22: return x.waiting(any(), random.nextBoolean());
            case 23: return x.would(any(), any(), any());
            case 24: return x.lengthOf(any());
            case 25: return x.series(any());
            case 26: return x.standard(any(), any());
            case 27: return x.untilRest();
            case 28: return x.load(80, 400);
            case 29: return x.fire(1 + random.nextInt(3), random.nextInt(3));
            case 30: return x.keepStandard(400, 10);
            default: return x.count(any());
        }
    }
}
