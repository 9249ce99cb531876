/**
 * A block that hangs by cords and catches pellets. ../shared/DOC.md says what
 * each call does; the numbers in the comments are its promises.
 *
 * Every room that a call needs is made once, by the constructor: the calls
 * themselves make no object and no array.
 */
public final class CaughtPellets {
    public static final int UNKNOWN = -1;
    public static final int BAD_VALUE = -2;
    public static final int FULL = -3;
    public static final int NOT_POSSIBLE = -4;
    public static final int NONE = -5;

    private static final int CORDS = 4;
    private static final int SETTINGS = 4;
    private static final int MOST_DIFFERENCE = 0;
    private static final int RUBBING = 1;
    private static final int LEAST_HEIGHT = 2;
    private static final int MOST_PELLETS = 3;
    private static final int[] SETTING_FIRST = {5, 20, 10, 10};
    private static final int[] SETTING_LEAST = {0, 0, 1, 1};
    private static final int[] SETTING_MOST = {50, 500, 500, 40};

    private static final int LEAST_PELLET = 10;
    private static final int MOST_PELLET = 2000;
    private static final int LEAST_SPEED = 50;
    private static final int MOST_SPEED = 900;
    private static final int TWICE_THE_PULL = 19613;

    private static final int COUNTS = 0;
    private static final int SWINGS = 1;
    private static final int NOT_STRAIGHT = 2;
    private static final int HOLDS_TOO_MANY = 3;

    private static final int MOST_WAITING = 20;
    private static final int MOST_FIRED = 60;
    private static final int MOST_STANDARDS = 5;
    private static final int SHOTS_FOR_A_STANDARD = 3;
    private static final int MOST_HALVES = 500;
    private static final int MOST_STATES = 4;
    private static final int MOST_SIGNS = 60;

    /** No height lasts so long: the greatest is 300000, and each half swing takes 1. */
    private static final int MORE_HALVES_THAN_ANY = 1000000;

    private final State state;
    private final State snapshot;
    private boolean hasSnapshot;
    private final History history;
    private final Text text;
    private final ShotReader reader;

    /** Promise 1. */
    public CaughtPellets() {
        state = new State();
        snapshot = new State();
        history = new History();
        text = new Text();
        reader = new ShotReader();
    }

    // ---- the block

    /** Promise 2. */
    public int block(int mass) {
        if (!within(mass, 1000, 9000)) {
            return BAD_VALUE;
        }
        if (state.hanging.isSwinging()) {
            return NOT_POSSIBLE;
        }
        history.record(state);
        int pellets = state.hanging.pellets;
        state.hanging.empty();
        state.hanging.mass = mass;
        return pellets;
    }

    /** Promise 3. */
    public int digOut() {
        if (state.hanging.isSwinging()) {
            return NOT_POSSIBLE;
        }
        if (state.hanging.pellets == 0) {
            return NONE;
        }
        history.record(state);
        int held = state.hanging.held;
        state.hanging.empty();
        return held;
    }

    /** Promise 4. */
    public int cord(int cord, int length) {
        if (!within(cord, 0, CORDS - 1)) {
            return UNKNOWN;
        }
        if (!within(length, 500, 3000)) {
            return BAD_VALUE;
        }
        if (state.hanging.isSwinging()) {
            return NOT_POSSIBLE;
        }
        if (state.hanging.cords[cord] == length) {
            return NONE;
        }
        history.record(state);
        state.hanging.cords[cord] = length;
        return state.hanging.meanLength();
    }

    /** Promise 5. */
    public int set(int which, int value) {
        if (!within(which, 0, SETTINGS - 1)) {
            return BAD_VALUE;
        }
        if (!within(value, SETTING_LEAST[which], SETTING_MOST[which])) {
            return BAD_VALUE;
        }
        int previous = state.hanging.settings[which];
        if (previous == value) {
            return NONE;
        }
        history.record(state);
        state.hanging.settings[which] = value;
        return previous;
    }

    /** Promise 6. */
    public int swing(int halves) {
        if (!within(halves, 1, MOST_HALVES)) {
            return BAD_VALUE;
        }
        if (!state.hanging.isSwinging()) {
            return NONE;
        }
        history.record(state);
        state.hanging.doHalves(halves);
        return state.hanging.height;
    }

    /** Promise 7. */
    public int stop() {
        if (!state.hanging.isSwinging()) {
            return NONE;
        }
        history.record(state);
        int height = state.hanging.height;
        state.hanging.height = 0;
        return height;
    }

    // ---- shots

    /** Promise 8. */
    public int load(int mass, int speed) {
        if (!isPellet(mass, speed)) {
            return BAD_VALUE;
        }
        if (state.row.size >= MOST_WAITING) {
            return FULL;
        }
        history.record(state);
        state.row.add(mass, speed);
        return state.row.size;
    }

    /** Promise 9. */
    public int loadAll() {
        int fault = reader.faultOf(text);
        if (fault >= 0) {
            return -100 - fault;
        }
        if (state.row.size + reader.shots > MOST_WAITING) {
            return FULL;
        }
        history.record(state);
        state.row.addAll(reader.found);
        return reader.shots;
    }

    /** Promise 10. */
    public int unload(int mass) {
        if (!within(mass, LEAST_PELLET, MOST_PELLET)) {
            return BAD_VALUE;
        }
        if (state.row.upTo(mass) == 0) {
            return NONE;
        }
        history.record(state);
        return state.row.removeUpTo(mass);
    }

    /** Promise 11. */
    public int fire(int shots, int halves) {
        if (!within(shots, 1, MOST_WAITING) || !within(halves, 0, MOST_HALVES)) {
            return BAD_VALUE;
        }
        int firing = Math.min(shots, state.row.size);
        if (state.fired.size + firing > MOST_FIRED) {
            return FULL;
        }
        if (firing == 0) {
            return NONE;
        }
        history.record(state);
        return state.fireFirst(firing, halves);
    }

    /** Promise 12. */
    public int strike(int shot, boolean struck) {
        Fired fired = state.fired;
        if (!fired.has(shot)) {
            return UNKNOWN;
        }
        if (fired.reason[shot] != COUNTS) {
            return NOT_POSSIBLE;
        }
        if (fired.struck[shot] == struck) {
            return NONE;
        }
        history.record(state);
        fired.struck[shot] = struck;
        return fired.seriesSize();
    }

    /** Promise 13. */
    public int clean() {
        if (state.fired.worst(state.limit) < 0) {
            return NONE;
        }
        history.record(state);
        return state.fired.strikeBad(state.limit);
    }

    /** Promise 14. */
    public int forget() {
        int shots = state.fired.size;
        if (shots == 0) {
            return NONE;
        }
        history.record(state);
        state.fired.size = 0;
        return shots;
    }

    // ---- the limit, standards

    /** Promise 15. */
    public int setLimit(int limit) {
        if (!within(limit, 1, 200)) {
            return BAD_VALUE;
        }
        int previous = state.limit;
        if (previous == limit) {
            return NONE;
        }
        history.record(state);
        state.limit = limit;
        return previous;
    }

    /** Promise 16. */
    public int keepStandard(int speed, int tolerance) {
        if (!within(speed, LEAST_SPEED, MOST_SPEED) || !within(tolerance, 0, 100)) {
            return BAD_VALUE;
        }
        if (state.standards.size >= MOST_STANDARDS) {
            return FULL;
        }
        history.record(state);
        state.standards.add(speed, tolerance);
        return state.standards.size - 1;
    }

    /** Promise 17. */
    public int dropStandard(int standard) {
        if (!state.standards.has(standard)) {
            return UNKNOWN;
        }
        history.record(state);
        state.standards.remove(standard);
        return state.standards.size;
    }

    // ---- texts

    /** Promise 18. */
    public int type(char character) {
        if (text.length >= MOST_SIGNS) {
            return FULL;
        }
        text.add(character);
        return text.length;
    }

    /** Promise 19. */
    public int clearText() {
        int length = text.length;
        text.length = 0;
        return length;
    }

    // ---- history

    /** Promise 20. */
    public int undo() {
        if (history.size == 0) {
            return NONE;
        }
        history.takeBack(state);
        return history.size;
    }

    /** Promise 21. */
    public int keep() {
        snapshot.copyFrom(state);
        hasSnapshot = true;
        return state.fired.size;
    }

    /** Promise 22. */
    public int restore() {
        if (!hasSnapshot) {
            return NONE;
        }
        history.record(state);
        state.copyFrom(snapshot);
        return state.fired.size;
    }

    // ---- what is told

    /** Promise 23. */
    public int shot(int shot, int what) {
        Fired fired = state.fired;
        if (!fired.has(shot)) {
            return UNKNOWN;
        }
        switch (what) {
            case 0: return fired.mass[shot];
            case 1: return fired.speed[shot];
            case 2: return fired.reason[shot];
            case 3: return fired.height[shot];
            case 4: return fired.told[shot];
            case 5: return asNumber(fired.struck[shot]);
            case 6: return asNumber(fired.isBad(shot, fired.mean(), state.limit));
            case 7: return fired.wholeMass[shot];
            default: return BAD_VALUE;
        }
    }

    /** Promise 24. */
    public int waiting(int place, boolean speed) {
        if (place < 0) {
            return BAD_VALUE;
        }
        if (place >= state.row.size) {
            return NONE;
        }
        return speed ? state.row.speed[place] : state.row.mass[place];
    }

    /** Promise 25. */
    public int would(int mass, int speed, int what) {
        if (!isPellet(mass, speed) || !within(what, 2, 4)) {
            return BAD_VALUE;
        }
        int reason = state.hanging.reasonNow();
        if (what == 2) {
            return reason;
        }
        if (reason != COUNTS) {
            return 0;
        }
        int height = state.hanging.firstHeight(mass, speed);
        return what == 3 ? height : state.hanging.toldSpeed(height, mass);
    }

    /** Promise 26. */
    public int lengthOf(int cord) {
        if (!within(cord, 0, CORDS - 1)) {
            return UNKNOWN;
        }
        return state.hanging.cords[cord];
    }

    /** Promise 27. */
    public int series(int what) {
        Fired fired = state.fired;
        boolean hasNone = fired.seriesSize() == 0;
        switch (what) {
            case 0: return fired.seriesSize();
            case 1: return hasNone ? NONE : fired.mean();
            case 2: return fired.spread();
            case 3: return fired.badShots(state.limit);
            case 4: return hasNone ? NONE : fired.firstOfSeries();
            case 5: return hasNone ? NONE : fired.nearestToMean();
            case 6: return state.standards.metBy(fired);
            default: return BAD_VALUE;
        }
    }

    /** Promise 28. */
    public int standard(int standard, int what) {
        Standards standards = state.standards;
        if (!standards.has(standard)) {
            return UNKNOWN;
        }
        switch (what) {
            case 0: return standards.speed[standard];
            case 1: return standards.tolerance[standard];
            case 2: return asNumber(standards.isMet(standard, state.fired));
            case 3: return standards.shotsWithin(standard, state.fired);
            default: return BAD_VALUE;
        }
    }

    /** Promise 29. */
    public int untilRest() {
        return state.hanging.isSwinging() ? state.hanging.halvesLeft() : NONE;
    }

    /** Promise 30. */
    public int count(int what) {
        if (!within(what, 0, 20)) {
            return BAD_VALUE;
        }
        if (what <= 6) {
            return countOfBlock(what);
        }
        if (what >= 15 && what <= 18) {
            return state.hanging.settings[what - 15];
        }
        switch (what) {
            case 7: return state.fired.size;
            case 8: return state.fired.notCounting();
            case 9: return state.row.size;
            case 10: return state.hanging.halfSwings;
            case 11: return state.hanging.caught;
            case 12: return state.hanging.dugOut;
            case 13: return state.standards.size;
            case 14: return state.limit;
            case 19: return history.size;
            default: return text.length;
        }
    }

    private int countOfBlock(int what) {
        Block hanging = state.hanging;
        switch (what) {
            case 0: return hanging.mass;
            case 1: return hanging.held;
            case 2: return hanging.pellets;
            case 3: return hanging.wholeMass();
            case 4: return hanging.height;
            case 5: return hanging.meanLength();
            default: return asNumber(hanging.isStraight());
        }
    }

    private static boolean within(int value, int least, int most) {
        return value >= least && value <= most;
    }

    private static boolean isPellet(int mass, int speed) {
        return within(mass, LEAST_PELLET, MOST_PELLET) && within(speed, LEAST_SPEED, MOST_SPEED);
    }

    private static int asNumber(boolean is) {
        return is ? 1 : 0;
    }

    /** Rounded down, for numbers that are not negative; 0 where nothing can be divided. */
    private static long quotient(long number, long divisor) {
        return divisor <= 0 ? 0 : number / divisor;
    }

    private static int difference(int one, int other) {
        return Math.abs(one - other);
    }

    /** The greatest whole number whose square is at most the given one; that is below 2 to the 32nd. */
    private static long rootOf(long square) {
        long root = 0;
        for (long bit = 1L << 15; bit > 0; bit >>= 1) {
            long tried = root + bit;
            if (tried * tried <= square) {
                root = tried;
            }
        }
        return root;
    }

    private static void copyRow(int[] from, int[] to) {
        System.arraycopy(from, 0, to, 0, Math.min(from.length, to.length));
    }

    /** All that undo and the snapshot bring back. */
    private static final class State {
        final Block hanging = new Block();
        final Row row = new Row();
        final Fired fired = new Fired();
        final Standards standards = new Standards();
        int limit = 30;

        void copyFrom(State other) {
            hanging.copyFrom(other.hanging);
            row.copyFrom(other.row);
            fired.copyFrom(other.fired);
            standards.copyFrom(other.standards);
            limit = other.limit;
        }

        /** Answers how many of them count. */
        int fireFirst(int shots, int halves) {
            int counting = 0;
            int firing = Math.min(shots, row.size);
            for (int i = 0; i < firing; i++) {
                if (fireOne(row.mass[i], row.speed[i])) {
                    hanging.doHalves(halves);
                    counting++;
                }
            }
            row.removeFirst(firing);
            return counting;
        }

        private boolean fireOne(int mass, int speed) {
            int reason = hanging.reasonNow();
            boolean isCounting = reason == COUNTS;
            int height = isCounting ? hanging.firstHeight(mass, speed) : 0;
            int told = isCounting ? hanging.toldSpeed(height, mass) : 0;
            fired.add(mass, speed, reason, height, told, hanging.wholeMass());
            if (isCounting) {
                hanging.hold(mass, height);
            }
            return isCounting;
        }
    }

    /** The block with its cords and settings, and the accounts of what it held. */
    private static final class Block {
        int mass = 4000;
        int held;
        int pellets;
        int height;
        int halfSwings;
        int caught;
        int dugOut;
        final int[] cords = new int[CORDS];
        final int[] settings = new int[SETTINGS];

        Block() {
            for (int i = 0; i < CORDS; i++) {
                cords[i] = 2000;
            }
            copyRow(SETTING_FIRST, settings);
        }

        void copyFrom(Block other) {
            mass = other.mass;
            held = other.held;
            pellets = other.pellets;
            height = other.height;
            halfSwings = other.halfSwings;
            caught = other.caught;
            dugOut = other.dugOut;
            copyRow(other.cords, cords);
            copyRow(other.settings, settings);
        }

        boolean isSwinging() {
            return height > 0;
        }

        /** In tenths of grams. */
        int wholeMass() {
            return 10 * mass + held;
        }

        int meanLength() {
            int sum = 0;
            for (int i = 0; i < CORDS; i++) {
                sum += cords[i];
            }
            return sum / CORDS;
        }

        boolean isStraight() {
            int shortest = cords[0];
            int longest = cords[0];
            for (int i = 1; i < CORDS; i++) {
                shortest = Math.min(shortest, cords[i]);
                longest = Math.max(longest, cords[i]);
            }
            return longest - shortest <= settings[MOST_DIFFERENCE];
        }

        /** The reason for which a shot would not count now, or COUNTS. */
        int reasonNow() {
            if (isSwinging()) {
                return SWINGS;
            }
            if (!isStraight()) {
                return NOT_STRAIGHT;
            }
            return pellets >= settings[MOST_PELLETS] ? HOLDS_TOO_MANY : COUNTS;
        }

        /** In hundredths of millimetres, for a shot that counts. */
        int firstHeight(int shotMass, int shotSpeed) {
            long all = (long) wholeMass() + shotMass;
            long speed = quotient((long) shotMass * shotSpeed * 1000, all);
            long free = speed * speed * 100 / TWICE_THE_PULL;
            return (int) Math.min(free, (long) meanLength() * 100);
        }

        int toldSpeed(int firstHeight, int shotMass) {
            long all = (long) wholeMass() + shotMass;
            long speed = rootOf((long) firstHeight * TWICE_THE_PULL / 100);
            return (int) quotient(speed * all, (long) shotMass * 1000);
        }

        void hold(int shotMass, int firstHeight) {
            held += shotMass;
            caught += shotMass;
            pellets++;
            height = firstHeight;
        }

        void empty() {
            dugOut += held;
            held = 0;
            pellets = 0;
        }

        void doHalves(int most) {
            for (int i = 0; i < most && isSwinging(); i++) {
                height = heightBehindHalf(height);
                halfSwings++;
            }
        }

        int halvesLeft() {
            if (settings[RUBBING] == 0) {
                // Each half swing takes just 1 then: reckoned at once, as it may be 300000 of them.
                return Math.max(1, height - settings[LEAST_HEIGHT] + 1);
            }
            int left = height;
            int halves = 0;
            while (left > 0 && halves < MORE_HALVES_THAN_ANY) {
                left = heightBehindHalf(left);
                halves++;
            }
            return halves;
        }

        private int heightBehindHalf(int before) {
            int lost = Math.max(1, (before * settings[RUBBING] + 999) / 1000);
            int left = before - lost;
            return left < settings[LEAST_HEIGHT] ? 0 : left;
        }
    }

    /** Shots that wait, the first one to be fired at 0. */
    private static final class Row {
        final int[] mass = new int[MOST_WAITING];
        final int[] speed = new int[MOST_WAITING];
        int size;

        void copyFrom(Row other) {
            copyRow(other.mass, mass);
            copyRow(other.speed, speed);
            size = other.size;
        }

        void add(int shotMass, int shotSpeed) {
            if (size < MOST_WAITING) {
                mass[size] = shotMass;
                speed[size] = shotSpeed;
                size++;
            }
        }

        void addAll(Row other) {
            for (int i = 0; i < other.size; i++) {
                add(other.mass[i], other.speed[i]);
            }
        }

        int upTo(int most) {
            int found = 0;
            for (int i = 0; i < size; i++) {
                if (mass[i] <= most) {
                    found++;
                }
            }
            return found;
        }

        /** Answers how many are removed. */
        int removeUpTo(int most) {
            int before = size;
            size = 0;
            for (int i = 0; i < before; i++) {
                if (mass[i] > most) {
                    add(mass[i], speed[i]);
                }
            }
            return before - size;
        }

        void removeFirst(int shots) {
            int before = size;
            size = 0;
            for (int i = Math.max(0, shots); i < before; i++) {
                add(mass[i], speed[i]);
            }
        }
    }

    /** Shots that were fired, and the series that those of them make that count and are not struck. */
    private static final class Fired {
        final int[] mass = new int[MOST_FIRED];
        final int[] speed = new int[MOST_FIRED];
        final int[] reason = new int[MOST_FIRED];
        final int[] height = new int[MOST_FIRED];
        final int[] told = new int[MOST_FIRED];
        final int[] wholeMass = new int[MOST_FIRED];
        final boolean[] struck = new boolean[MOST_FIRED];
        int size;

        void copyFrom(Fired other) {
            copyRow(other.mass, mass);
            copyRow(other.speed, speed);
            copyRow(other.reason, reason);
            copyRow(other.height, height);
            copyRow(other.told, told);
            copyRow(other.wholeMass, wholeMass);
            for (int i = 0; i < MOST_FIRED; i++) {
                struck[i] = other.struck[i];
            }
            size = other.size;
        }

        boolean has(int shot) {
            return shot >= 0 && shot < size;
        }

        void add(int shotMass, int shotSpeed, int why, int firstHeight, int toldSpeed, int ahead) {
            if (size < MOST_FIRED) {
                mass[size] = shotMass;
                speed[size] = shotSpeed;
                reason[size] = why;
                height[size] = firstHeight;
                told[size] = toldSpeed;
                wholeMass[size] = ahead;
                struck[size] = false;
                size++;
            }
        }

        int notCounting() {
            int found = 0;
            for (int i = 0; i < size; i++) {
                if (reason[i] != COUNTS) {
                    found++;
                }
            }
            return found;
        }

        boolean isOfSeries(int shot) {
            return has(shot) && reason[shot] == COUNTS && !struck[shot];
        }

        int seriesSize() {
            int found = 0;
            for (int i = 0; i < size; i++) {
                if (isOfSeries(i)) {
                    found++;
                }
            }
            return found;
        }

        /** 0 without a series. */
        int mean() {
            long sum = 0;
            int shots = 0;
            for (int i = 0; i < size; i++) {
                if (isOfSeries(i)) {
                    sum += told[i];
                    shots++;
                }
            }
            return (int) quotient(sum, shots);
        }

        int spread() {
            int first = firstOfSeries();
            if (!has(first)) {
                return 0;
            }
            int least = told[first];
            int greatest = told[first];
            for (int i = first; i < size; i++) {
                if (isOfSeries(i)) {
                    least = Math.min(least, told[i]);
                    greatest = Math.max(greatest, told[i]);
                }
            }
            return greatest - least;
        }

        boolean isBad(int shot, int mean, int limit) {
            return isOfSeries(shot) && difference(told[shot], mean) > limit;
        }

        int badShots(int limit) {
            int mean = mean();
            int found = 0;
            for (int i = 0; i < size; i++) {
                if (isBad(i, mean, limit)) {
                    found++;
                }
            }
            return found;
        }

        /** -1 without a series. */
        int firstOfSeries() {
            for (int i = 0; i < size; i++) {
                if (isOfSeries(i)) {
                    return i;
                }
            }
            return -1;
        }

        /** -1 without a series. */
        int nearestToMean() {
            int mean = mean();
            int nearest = -1;
            int least = 0;
            for (int i = 0; i < size; i++) {
                if (isOfSeries(i) && (nearest < 0 || difference(told[i], mean) < least)) {
                    least = difference(told[i], mean);
                    nearest = i;
                }
            }
            return nearest;
        }

        /** The bad shot that differs most from the mean; -1 if none is bad. */
        int worst(int limit) {
            int mean = mean();
            int worst = -1;
            int greatest = limit;
            for (int i = 0; i < size; i++) {
                if (isBad(i, mean, greatest)) {
                    greatest = difference(told[i], mean);
                    worst = i;
                }
            }
            return worst;
        }

        /** Answers how many are struck by that. */
        int strikeBad(int limit) {
            int found = 0;
            // A shot is struck once at most, so there are no more rounds than shots.
            for (int i = 0; i < MOST_FIRED; i++) {
                int worst = worst(limit);
                if (!has(worst)) {
                    return found;
                }
                struck[worst] = true;
                found++;
            }
            return found;
        }
    }

    /** Speeds with tolerances that a series may meet. */
    private static final class Standards {
        final int[] speed = new int[MOST_STANDARDS];
        final int[] tolerance = new int[MOST_STANDARDS];
        int size;

        void copyFrom(Standards other) {
            copyRow(other.speed, speed);
            copyRow(other.tolerance, tolerance);
            size = other.size;
        }

        boolean has(int number) {
            return number >= 0 && number < size;
        }

        void add(int toldSpeed, int most) {
            if (size < MOST_STANDARDS) {
                speed[size] = toldSpeed;
                tolerance[size] = most;
                size++;
            }
        }

        void remove(int number) {
            if (!has(number)) {
                return;
            }
            for (int i = number; i < size - 1; i++) {
                speed[i] = speed[i + 1];
                tolerance[i] = tolerance[i + 1];
            }
            size--;
        }

        boolean isWithin(int number, int told) {
            return has(number) && difference(told, speed[number]) <= tolerance[number];
        }

        boolean isMet(int number, Fired fired) {
            return fired.seriesSize() >= SHOTS_FOR_A_STANDARD && isWithin(number, fired.mean());
        }

        /** A set, as bits. */
        int metBy(Fired fired) {
            int met = 0;
            for (int i = 0; i < size; i++) {
                if (isMet(i, fired)) {
                    met |= 1 << i;
                }
            }
            return met;
        }

        int shotsWithin(int number, Fired fired) {
            int found = 0;
            for (int i = 0; i < fired.size; i++) {
                if (fired.isOfSeries(i) && isWithin(number, fired.told[i])) {
                    found++;
                }
            }
            return found;
        }
    }

    /** The latest states, the oldest one at 0. */
    private static final class History {
        final State[] states = new State[MOST_STATES];
        int size;

        History() {
            for (int i = 0; i < MOST_STATES; i++) {
                states[i] = new State();
            }
        }

        void record(State state) {
            if (size >= MOST_STATES) {
                dropOldest();
            }
            State free = states[size];
            if (free != null) {
                free.copyFrom(state);
                size++;
            }
        }

        /** The room of the oldest state goes behind the others, to be used again. */
        private void dropOldest() {
            State oldest = states[0];
            for (int i = 0; i < MOST_STATES - 1; i++) {
                states[i] = states[i + 1];
            }
            states[MOST_STATES - 1] = oldest;
            size = MOST_STATES - 1;
        }

        void takeBack(State state) {
            if (size <= 0) {
                return;
            }
            size--;
            State latest = states[size];
            if (latest != null) {
                state.copyFrom(latest);
            }
        }
    }

    /** What was typed: any characters. */
    private static final class Text {
        final char[] signs = new char[MOST_SIGNS];
        int length;

        void add(char sign) {
            if (length < MOST_SIGNS) {
                signs[length] = sign;
                length++;
            }
        }

        boolean isAt(int place, char sign) {
            return within(place, 0, length - 1) && signs[place] == sign;
        }

        /** -1 if there is no digit. */
        int digitAt(int place) {
            if (!within(place, 0, length - 1) || !within(signs[place], '0', '9')) {
                return -1;
            }
            return signs[place] - '0';
        }
    }

    /**
     * Reads the shots of a text. A reading that fails leaves its place at the
     * first character that is not allowed, or at the end: there is the fault.
     */
    private static final class ShotReader {
        final Row found = new Row();
        int shots;
        private int place;
        private int tenths;
        private int speed;
        private int times;

        /** -1 if the text has none; the shots are found then (those for which a row has room). */
        int faultOf(Text text) {
            found.size = 0;
            shots = 0;
            place = 0;
            // Each round reads one character at least.
            for (int round = 0; round <= MOST_SIGNS; round++) {
                if (!readShots(text)) {
                    return place;
                }
                note();
                if (place >= text.length) {
                    return -1;
                }
                if (!text.isAt(place, ';')) {
                    return place;
                }
                place++;
            }
            return place;
        }

        private void note() {
            for (int i = 0; i < times; i++) {
                found.add(tenths, speed);
            }
            shots += times;
        }

        private boolean readShots(Text text) {
            if (!readMass(text) || !text.isAt(place, '@')) {
                return false;
            }
            place++;
            speed = readNumber(text, LEAST_SPEED, MOST_SPEED);
            return speed >= 0 && readTimes(text);
        }

        private boolean readMass(Text text) {
            int grams = readNumber(text, 1, MOST_PELLET / 10);
            if (grams < 0) {
                return false;
            }
            tenths = grams * 10;
            if (!text.isAt(place, '.')) {
                return true;
            }
            place++;
            int digit = text.digitAt(place);
            if (digit < 0 || tenths + digit > MOST_PELLET) {
                return false;
            }
            tenths += digit;
            place++;
            return true;
        }

        private boolean readTimes(Text text) {
            times = 1;
            if (text.isAt(place, 'x')) {
                place++;
                times = readNumber(text, 2, 9);
            }
            return times >= 0;
        }

        /** -1 if there is no such number. */
        private int readNumber(Text text, int least, int most) {
            int number = 0;
            while (place < text.length) {
                int digit = text.digitAt(place);
                if (digit < 0) {
                    break;
                }
                int longer = number * 10 + digit;
                if (longer == 0 || longer > most) {
                    return -1;
                }
                number = longer;
                place++;
            }
            return number < least ? -1 : number;
        }
    }
}
