import java.math.BigInteger;
import java.util.ArrayDeque;
import java.util.ArrayList;
import java.util.Deque;
import java.util.List;
import java.util.regex.Matcher;
import java.util.regex.Pattern;

/**
 * The document once more, told in another way: states are copied whole, the
 * fault of a text is found by a pattern, and nothing is reckoned by a short cut.
 */
final class Model {
    private static final int[] LEAST = {0, 0, 1, 1};
    private static final int[] MOST = {50, 500, 500, 40};
    private static final BigInteger PULL = BigInteger.valueOf(19613);

    // "x1" is allowed and ends nowhere, so that the fault is behind it.
    private static final String SHOT =
        "(?:200(?:\\.0)?|(?:1[0-9]{2}|[1-9][0-9]?)(?:\\.[0-9])?)@(?:900|[1-8][0-9]{2}|[5-9][0-9])"
            + "(?:x(?:[2-9]|1\u0001))?";
    private static final Pattern SHOTS = Pattern.compile(SHOT + "(?:;" + SHOT + ")*");

    private record Pellet(int mass, int speed) {
    }

    private record Shot(Pellet pellet, int reason, int height, int told, int ahead, boolean struck) {
        Shot with(boolean isStruck) {
            return new Shot(pellet, reason, height, told, ahead, isStruck);
        }

        boolean ofSeries() {
            return reason == 0 && !struck;
        }
    }

    private static final class State implements Cloneable {
        int mass = 4000;
        List<Integer> pellets = new ArrayList<>();
        int[] cords = {2000, 2000, 2000, 2000};
        int[] settings = {5, 20, 10, 10};
        int height;
        int halves;
        int caught;
        int dug;
        int limit = 30;
        List<Pellet> row = new ArrayList<>();
        List<Shot> fired = new ArrayList<>();
        List<int[]> standards = new ArrayList<>();

        State copy() {
            try {
                State copy = (State) clone();
                copy.pellets = new ArrayList<>(pellets);
                copy.cords = cords.clone();
                copy.settings = settings.clone();
                copy.row = new ArrayList<>(row);
                copy.fired = new ArrayList<>(fired);
                copy.standards = new ArrayList<>(standards);
                return copy;
            } catch (CloneNotSupportedException e) {
                throw new IllegalStateException(e);
            }
        }
    }

    private State now = new State();
    private State kept;
    private final Deque<State> history = new ArrayDeque<>();
    private String text = "";

    private void act() {
        history.addLast(now.copy());
        if (history.size() > 4) {
            history.removeFirst();
        }
    }

    private static boolean out(int value, int least, int most) {
        return value < least || value > most;
    }

    private int held() {
        return now.pellets.stream().mapToInt(Integer::intValue).sum();
    }

    private int whole() {
        return now.mass * 10 + held();
    }

    private int length() {
        return (now.cords[0] + now.cords[1] + now.cords[2] + now.cords[3]) / 4;
    }

    private boolean straight() {
        for (int one : now.cords) {
            for (int other : now.cords) {
                if (one - other > now.settings[0]) {
                    return false;
                }
            }
        }
        return true;
    }

    private int reason() {
        return now.height > 0 ? 1 : !straight() ? 2 : now.pellets.size() >= now.settings[3] ? 3 : 0;
    }

    private int firstHeight(Pellet pellet) {
        BigInteger mass = BigInteger.valueOf(pellet.mass);
        BigInteger u = mass.multiply(BigInteger.valueOf(pellet.speed * 1000L))
            .divide(BigInteger.valueOf(whole()).add(mass));
        BigInteger height = u.pow(2).multiply(BigInteger.valueOf(100)).divide(PULL);
        return height.min(BigInteger.valueOf(length() * 100L)).intValueExact();
    }

    private int told(Pellet pellet, int height) {
        BigInteger s = BigInteger.valueOf(height).multiply(PULL).divide(BigInteger.valueOf(100)).sqrt();
        return s.multiply(BigInteger.valueOf(whole() + pellet.mass))
            .divide(BigInteger.valueOf(pellet.mass * 1000L)).intValueExact();
    }

    private int behindHalf(int height) {
        int part = height * now.settings[1];
        int lost = part / 1000 + (part % 1000 == 0 ? 0 : 1);
        int left = height - (lost == 0 ? 1 : lost);
        return left < now.settings[2] ? 0 : left;
    }

    private void halves(int most) {
        int done = 0;
        while (done < most && now.height != 0) {
            now.height = behindHalf(now.height);
            now.halves++;
            done++;
        }
    }

    int block(int mass) {
        if (out(mass, 1000, 9000)) {
            return -2;
        }
        if (now.height > 0) {
            return -4;
        }
        act();
        int former = now.pellets.size();
        now.dug += held();
        now.pellets.clear();
        now.mass = mass;
        return former;
    }

    int digOut() {
        if (now.height > 0) {
            return -4;
        }
        if (now.pellets.isEmpty()) {
            return -5;
        }
        act();
        int held = held();
        now.dug += held;
        now.pellets.clear();
        return held;
    }

    int cord(int cord, int length) {
        if (out(cord, 0, 3)) {
            return -1;
        }
        if (out(length, 500, 3000)) {
            return -2;
        }
        if (now.height > 0) {
            return -4;
        }
        if (now.cords[cord] == length) {
            return -5;
        }
        act();
        now.cords[cord] = length;
        return length();
    }

    int set(int which, int value) {
        if (out(which, 0, 3) || out(value, LEAST[which], MOST[which])) {
            return -2;
        }
        int previous = now.settings[which];
        if (previous == value) {
            return -5;
        }
        act();
        now.settings[which] = value;
        return previous;
    }

    int swing(int halves) {
        if (out(halves, 1, 500)) {
            return -2;
        }
        if (now.height == 0) {
            return -5;
        }
        act();
        halves(halves);
        return now.height;
    }

    int stop() {
        if (now.height == 0) {
            return -5;
        }
        act();
        int height = now.height;
        now.height = 0;
        return height;
    }

    int load(int mass, int speed) {
        if (out(mass, 10, 2000) || out(speed, 50, 900)) {
            return -2;
        }
        if (now.row.size() == 20) {
            return -3;
        }
        act();
        now.row.add(new Pellet(mass, speed));
        return now.row.size();
    }

    /** -1 if there is none. */
    private int fault() {
        if (SHOTS.matcher(text).matches()) {
            return -1;
        }
        for (int end = 1; end <= text.length(); end++) {
            Matcher matcher = SHOTS.matcher(text.substring(0, end));
            if (!matcher.matches() && !matcher.hitEnd()) {
                return end - 1;
            }
        }
        return text.length();
    }

    int loadAll() {
        int fault = fault();
        if (fault >= 0) {
            return -100 - fault;
        }
        List<Pellet> read = new ArrayList<>();
        for (String shot : text.split(";")) {
            String[] parts = shot.split("[@x]");
            int mass = new java.math.BigDecimal(parts[0]).movePointRight(1).intValueExact();
            for (int i = 0; i < (parts.length == 3 ? Integer.parseInt(parts[2]) : 1); i++) {
                read.add(new Pellet(mass, Integer.parseInt(parts[1])));
            }
        }
        if (now.row.size() + read.size() > 20) {
            return -3;
        }
        act();
        now.row.addAll(read);
        return read.size();
    }

    int unload(int mass) {
        if (out(mass, 10, 2000)) {
            return -2;
        }
        if (now.row.stream().noneMatch(pellet -> pellet.mass <= mass)) {
            return -5;
        }
        act();
        int before = now.row.size();
        now.row.removeIf(pellet -> pellet.mass <= mass);
        return before - now.row.size();
    }

    int fire(int shots, int halves) {
        if (out(shots, 1, 20) || out(halves, 0, 500)) {
            return -2;
        }
        int firing = Math.min(shots, now.row.size());
        if (now.fired.size() + firing > 60) {
            return -3;
        }
        if (firing == 0) {
            return -5;
        }
        act();
        int counting = 0;
        for (int i = 0; i < firing; i++) {
            Pellet pellet = now.row.remove(0);
            int reason = reason();
            if (reason != 0) {
                now.fired.add(new Shot(pellet, reason, 0, 0, whole(), false));
                continue;
            }
            int height = firstHeight(pellet);
            now.fired.add(new Shot(pellet, 0, height, told(pellet, height), whole(), false));
            now.pellets.add(pellet.mass);
            now.caught += pellet.mass;
            now.height = height;
            counting++;
            halves(halves);
        }
        return counting;
    }

    private List<Shot> series() {
        return now.fired.stream().filter(Shot::ofSeries).toList();
    }

    private int mean() {
        return (int) Math.floor(series().stream().mapToInt(Shot::told).average().orElse(0));
    }

    private boolean bad(Shot shot) {
        return shot.ofSeries() && Math.abs(shot.told - mean()) > now.limit;
    }

    int strike(int shot, boolean struck) {
        if (out(shot, 0, now.fired.size() - 1)) {
            return -1;
        }
        if (now.fired.get(shot).reason != 0) {
            return -4;
        }
        if (now.fired.get(shot).struck == struck) {
            return -5;
        }
        act();
        now.fired.set(shot, now.fired.get(shot).with(struck));
        return series().size();
    }

    int clean() {
        if (now.fired.stream().noneMatch(this::bad)) {
            return -5;
        }
        act();
        int struck = 0;
        while (now.fired.stream().anyMatch(this::bad)) {
            int mean = mean();
            Shot worst = series().get(0);
            for (Shot shot : series()) {
                if (Math.abs(shot.told - mean) > Math.abs(worst.told - mean)) {
                    worst = shot;
                }
            }
            for (int i = 0; i < now.fired.size(); i++) {
                if (now.fired.get(i) == worst) {
                    now.fired.set(i, worst.with(true));
                }
            }
            struck++;
        }
        return struck;
    }

    int forget() {
        int shots = now.fired.size();
        if (shots == 0) {
            return -5;
        }
        act();
        now.fired.clear();
        return shots;
    }

    int setLimit(int limit) {
        if (out(limit, 1, 200)) {
            return -2;
        }
        int previous = now.limit;
        if (previous == limit) {
            return -5;
        }
        act();
        now.limit = limit;
        return previous;
    }

    int keepStandard(int speed, int tolerance) {
        if (out(speed, 50, 900) || out(tolerance, 0, 100)) {
            return -2;
        }
        if (now.standards.size() == 5) {
            return -3;
        }
        act();
        now.standards.add(new int[] {speed, tolerance});
        return now.standards.size() - 1;
    }

    int dropStandard(int standard) {
        if (out(standard, 0, now.standards.size() - 1)) {
            return -1;
        }
        act();
        now.standards.remove(standard);
        return now.standards.size();
    }

    int type(char character) {
        if (text.length() == 60) {
            return -3;
        }
        text += character;
        return text.length();
    }

    int clearText() {
        int length = text.length();
        text = "";
        return length;
    }

    int undo() {
        if (history.isEmpty()) {
            return -5;
        }
        now = history.removeLast();
        return history.size();
    }

    int keep() {
        kept = now.copy();
        return now.fired.size();
    }

    int restore() {
        if (kept == null) {
            return -5;
        }
        act();
        now = kept.copy();
        return now.fired.size();
    }

    int shot(int shot, int what) {
        if (out(shot, 0, now.fired.size() - 1)) {
            return -1;
        }
        if (out(what, 0, 7)) {
            return -2;
        }
        Shot one = now.fired.get(shot);
        return new int[] {
            one.pellet.mass, one.pellet.speed, one.reason, one.height, one.told,
            one.struck ? 1 : 0, bad(one) ? 1 : 0, one.ahead,
        }[what];
    }

    int waiting(int place, boolean speed) {
        if (place < 0) {
            return -2;
        }
        if (place >= now.row.size()) {
            return -5;
        }
        return speed ? now.row.get(place).speed : now.row.get(place).mass;
    }

    int would(int mass, int speed, int what) {
        if (out(mass, 10, 2000) || out(speed, 50, 900) || out(what, 2, 4)) {
            return -2;
        }
        Pellet pellet = new Pellet(mass, speed);
        int height = reason() == 0 ? firstHeight(pellet) : 0;
        int told = reason() == 0 ? told(pellet, height) : 0;
        return new int[] {reason(), height, told}[what - 2];
    }

    int lengthOf(int cord) {
        return out(cord, 0, 3) ? -1 : now.cords[cord];
    }

    int series(int what) {
        List<Shot> series = series();
        if (what == 0) {
            return series.size();
        }
        if (what == 2) {
            return series.stream().mapToInt(Shot::told).max().orElse(0)
                - series.stream().mapToInt(Shot::told).min().orElse(0);
        }
        if (what == 3) {
            return (int) series.stream().filter(this::bad).count();
        }
        if (what == 6) {
            int met = 0;
            for (int i = 0; i < now.standards.size(); i++) {
                met += standard(i, 2) << i;
            }
            return met;
        }
        if (out(what, 1, 5)) {
            return -2;
        }
        if (series.isEmpty()) {
            return -5;
        }
        if (what == 1) {
            return mean();
        }
        int mean = mean();
        int least = series.stream().mapToInt(shot -> Math.abs(shot.told - mean)).min().orElse(0);
        int found = 0;
        while (!now.fired.get(found).ofSeries()
            || what == 5 && Math.abs(now.fired.get(found).told - mean) != least) {
            found++;
        }
        return found;
    }

    int standard(int standard, int what) {
        if (out(standard, 0, now.standards.size() - 1)) {
            return -1;
        }
        if (out(what, 0, 3)) {
            return -2;
        }
        int[] kept = now.standards.get(standard);
        boolean met = series().size() >= 3 && Math.abs(mean() - kept[0]) <= kept[1];
        long within = series().stream().filter(shot -> Math.abs(shot.told - kept[0]) <= kept[1]).count();
        return new int[] {kept[0], kept[1], met ? 1 : 0, (int) within}[what];
    }

    int untilRest() {
        int halves = 0;
        for (int height = now.height; height > 0; height = behindHalf(height)) {
            halves++;
        }
        return halves == 0 ? -5 : halves;
    }

    int count(int what) {
        int notCounting = (int) now.fired.stream().filter(shot -> shot.reason != 0).count();
        int[] counts = {
            now.mass, held(), now.pellets.size(), whole(), now.height, length(), straight() ? 1 : 0,
            now.fired.size(), notCounting, now.row.size(), now.halves, now.caught, now.dug,
            now.standards.size(), now.limit, now.settings[0], now.settings[1], now.settings[2],
            now.settings[3], history.size(), text.length(),
        };
        return out(what, 0, 20) ? -2 : counts[what];
    }
}
