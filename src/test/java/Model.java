import java.util.ArrayList;
import java.util.List;
import java.util.regex.Matcher;
import java.util.regex.Pattern;

/**
 * A second program of the document, for comparison: it keeps everything that ever happened, and reckons with the
 * times at which things end instead of counting down.
 */
final class Model {
    private static final int[] LEAST = {1, 1, 5, 1, 0, 0, 0, 1, 0, 0, -500};
    private static final int[] GREATEST = {20, 10, 2000, 20, 256, 256, 500, 2000, 256, 30, 500};
    private static final int[] FIRST = {5, 3, 200, 4, 128, 16, 5, 300, 64, 8, 0};
    private static final int[] BY_HAND = {5000, 3000, 2000};

    private static final String AMOUNT = "-?(0|[1-9][0-9]{0,2}|[12][0-9]{3}|3000)";
    private static final String DURATION = "([1-9]|[1-4][0-9]|50)";
    private static final String ONE_STEP = "(n[1-9][0-9]?|v(0|[1-9][0-9]{0,2}|1000)|d[0-4]:" + AMOUNT + "/" + DURATION
        + "|p" + AMOUNT + "/" + DURATION + ")";
    private static final Pattern TEXT = Pattern.compile(ONE_STEP + "(," + ONE_STEP + ")*");

    private static final class Piece {
        int offset;
        int skew;
        int change;
    }

    private static final class OneUnit {
        int[] settings = FIRST.clone();
        int[] byHand = new int[3];
        int feed, sum, misses, expectedError, expectedSkew;
        int waitEnd, readyEnd, hiddenEnd, falseEnd;
        int falseOffset;
        int disturbedFrom, amount, duration;
        int toExpect, skewToExpect;
        List<Piece> pieces = new ArrayList<>();
        List<Integer> errors = new ArrayList<>();
        Integer trueError, trueSkew, recognized, m, measured;

        OneUnit copied() {
            OneUnit c = new OneUnit();
            c.settings = settings.clone();
            c.byHand = byHand.clone();
            c.feed = feed;
            c.sum = sum;
            c.misses = misses;
            c.expectedError = expectedError;
            c.expectedSkew = expectedSkew;
            c.waitEnd = waitEnd;
            c.readyEnd = readyEnd;
            c.hiddenEnd = hiddenEnd;
            c.falseEnd = falseEnd;
            c.falseOffset = falseOffset;
            c.disturbedFrom = disturbedFrom;
            c.amount = amount;
            c.duration = duration;
            c.toExpect = toExpect;
            c.skewToExpect = skewToExpect;
            c.pieces = new ArrayList<>(pieces);
            c.errors = new ArrayList<>(errors);
            c.trueError = trueError;
            c.trueSkew = trueSkew;
            c.recognized = recognized;
            c.m = m;
            c.measured = measured;
            return c;
        }
    }

    private static final class World {
        List<OneUnit> units = new ArrayList<>();
        int time, speed, before;
        int[] splice;
        int[] totals = new int[6];

        World(int count) {
            for (int i = 0; i < count; i++) units.add(new OneUnit());
        }

        World copied() {
            World c = new World(0);
            for (OneUnit u : units) c.units.add(u.copied());
            c.time = time;
            c.speed = speed;
            c.before = before;
            c.splice = splice == null ? null : splice.clone();
            c.totals = totals.clone();
            return c;
        }

        int way(int unit) {
            return unit == 0 ? 0 : way(unit - 1) + units.get(unit).settings[0];
        }

        void disturb(OneUnit u, int amount, int duration) {
            u.disturbedFrom = time;
            u.amount = amount;
            u.duration = duration;
        }

        void repeat() {
            int change = speed - before;
            for (int i = 0; i < units.size(); i++) {
                if (splice == null || splice[0] + way(i) != time) continue;
                OneUnit u = units.get(i);
                disturb(u, splice[1], splice[2]);
                u.sum = 0;
                u.readyEnd = time + u.settings[1] + u.settings[9];
            }
            for (OneUnit u : units) {
                Piece p = new Piece();
                int i = time - u.disturbedFrom;
                p.offset = u.byHand[0] + (i < u.duration ? u.amount * (u.duration - i) / u.duration : 0);
                p.offset += (u.settings[10] - u.feed) * change / 100;
                p.skew = u.byHand[2] + u.byHand[1];
                p.change = change;
                u.pieces.add(p);
                u.trueError = null;
                u.trueSkew = null;
                u.recognized = null;
                u.m = null;
                u.measured = null;
            }
            for (int i = 1; i < units.size(); i++) {
                if (time >= units.get(i).settings[1] + way(i)) sense(units.get(i), way(i));
            }
            time++;
            before = speed;
            for (OneUnit u : units) {
                if (u.waitEnd == time) {
                    u.expectedError += u.toExpect;
                    u.expectedSkew += u.skewToExpect;
                }
            }
        }

        private void sense(OneUnit u, int way) {
            Piece own = u.pieces.get(time - u.settings[1]);
            Piece first = units.get(0).pieces.get(time - u.settings[1] - way);
            u.trueError = own.offset - first.offset;
            u.trueSkew = own.skew;
            u.errors.add(u.trueError);
            long window = u.settings[2];
            if (u.misses >= u.settings[3] || u.readyEnd > time) window *= 4;
            u.recognized = 0;
            long best = window + 1;
            if (u.hiddenEnd <= time && Math.abs(u.trueError - u.expectedError) < best) {
                best = Math.abs(u.trueError - u.expectedError);
                u.recognized = 1;
                u.m = u.trueError;
                u.measured = u.trueSkew;
            }
            if (u.falseEnd > time && Math.abs(u.falseOffset - u.expectedError) < best) {
                u.recognized = 2;
                u.m = u.falseOffset;
                u.measured = u.expectedSkew;
            }
            if (u.recognized == 0) {
                u.misses++;
                totals[2]++;
                return;
            }
            u.misses = 0;
            totals[0]++;
            if (u.recognized == 2) totals[1]++;
            if ((own.change >= 10 || own.change <= -10) && u.settings[8] > 0) {
                int more = u.m - u.expectedError;
                more *= 100;
                more /= own.change;
                more *= u.settings[8];
                more /= 256;
                u.feed = limit(u.feed + more, 500);
                totals[5]++;
            }
            u.expectedError = u.m;
            u.expectedSkew = u.measured;
            correct(u);
        }

        private void correct(OneUnit u) {
            if (u.waitEnd > time) return;
            boolean phase = Math.abs(u.m) > u.settings[6];
            boolean skew = Math.abs(u.measured) > u.settings[6];
            if (!phase && !skew) return;
            u.toExpect = 0;
            u.skewToExpect = 0;
            if (phase) {
                u.sum = limit(u.sum + u.m, 20000);
                int correction = limit(-((u.settings[4] * u.m + u.settings[5] * u.sum) / 256), u.settings[7]);
                int old = u.byHand[0];
                u.byHand[0] = limit(old + correction, 5000);
                u.toExpect = u.byHand[0] - old;
                totals[3]++;
            }
            if (skew) {
                int old = u.byHand[1];
                u.byHand[1] = limit(old + limit(-(u.settings[4] * u.measured / 256), u.settings[7]), 3000);
                u.skewToExpect = u.byHand[1] - old;
                totals[4]++;
            }
            u.waitEnd = time + u.settings[1] + 1;
        }
    }

    private World w = new World(3);
    private final World[] slots = new World[2];
    private String pad = "";

    private static int limit(int value, int most) {
        return value > most ? most : value < -most ? -most : value;
    }

    private boolean isUnit(int unit) {
        return unit >= 0 && unit < w.units.size();
    }

    private static boolean in(int value, int least, int greatest) {
        return least <= value && value <= greatest;
    }

    private static boolean isValue(int setting, int value) {
        return in(setting, 0, 10) && in(value, LEAST[setting], GREATEST[setting]);
    }

    int setUp(int units) {
        if (!in(units, 2, 5)) return Check.BAD_VALUE;
        int old = w.time;
        w = new World(units);
        return old;
    }

    int set(int unit, int setting, int value) {
        if (!isUnit(unit)) return Check.NO_SUCH;
        if (!isValue(setting, value)) return Check.BAD_VALUE;
        if (setting < 2 && w.time > 0) return Check.NOT_POSSIBLE;
        int old = w.units.get(unit).settings[setting];
        w.units.get(unit).settings[setting] = value;
        return old;
    }

    int get(int unit, int setting) {
        if (!isUnit(unit)) return Check.NO_SUCH;
        return in(setting, 0, 10) ? w.units.get(unit).settings[setting] : Check.BAD_VALUE;
    }

    int adjust(int unit, int what, int value) {
        if (!isUnit(unit)) return Check.NO_SUCH;
        if (!in(what, 0, 2) || !in(value, -BY_HAND[what], BY_HAND[what])) return Check.BAD_VALUE;
        int old = w.units.get(unit).byHand[what];
        w.units.get(unit).byHand[what] = value;
        return old;
    }

    int restart(int unit) {
        if (!isUnit(unit)) return Check.NO_SUCH;
        OneUnit u = w.units.get(unit);
        int old = u.feed;
        u.feed = 0;
        u.sum = 0;
        u.misses = 0;
        u.expectedError = 0;
        u.expectedSkew = 0;
        u.waitEnd = 0;
        u.readyEnd = 0;
        return old;
    }

    int speed(int speed) {
        if (!in(speed, 0, 1000)) return Check.BAD_VALUE;
        int old = w.speed;
        w.speed = speed;
        return old;
    }

    int disturb(int unit, int amount, int duration) {
        if (!isUnit(unit)) return Check.NO_SUCH;
        if (!in(amount, -3000, 3000) || !in(duration, 1, 50)) return Check.BAD_VALUE;
        w.disturb(w.units.get(unit), amount, duration);
        return w.time;
    }

    private int left(int end) {
        return end > w.time ? end - w.time : 0;
    }

    int hide(int unit, int repeats) {
        if (!isUnit(unit)) return Check.NO_SUCH;
        if (!in(repeats, 0, 50)) return Check.BAD_VALUE;
        int old = left(w.units.get(unit).hiddenEnd);
        w.units.get(unit).hiddenEnd = w.time + repeats;
        return old;
    }

    int falseMark(int unit, int offset, int repeats) {
        if (!isUnit(unit)) return Check.NO_SUCH;
        if (!in(offset, -3000, 3000) || !in(repeats, 0, 50)) return Check.BAD_VALUE;
        int old = left(w.units.get(unit).falseEnd);
        w.units.get(unit).falseEnd = w.time + repeats;
        w.units.get(unit).falseOffset = offset;
        return old;
    }

    int splice(int amount, int duration) {
        if (!in(amount, -3000, 3000) || !in(duration, 1, 50)) return Check.BAD_VALUE;
        w.splice = new int[] {w.time, amount, duration};
        return w.way(w.units.size() - 1) + 1;
    }

    int run(int n) {
        if (!in(n, 1, 300)) return Check.BAD_VALUE;
        if (w.time + n > 100000) return Check.NOT_POSSIBLE;
        for (int i = 0; i < n; i++) w.repeat();
        return w.time;
    }

    int seen(int unit, int what) {
        if (!isUnit(unit)) return Check.NO_SUCH;
        if (!in(what, 0, 6)) return Check.BAD_VALUE;
        if (w.time == 0) return Check.NOT_POSSIBLE;
        OneUnit u = w.units.get(unit);
        Piece p = u.pieces.get(w.time - 1);
        Integer[] all = {p.offset, p.skew, u.trueError, u.trueSkew, u.recognized, u.m, u.measured};
        return all[what] == null ? Check.NONE : all[what];
    }

    int state(int unit, int what) {
        if (!isUnit(unit)) return Check.NO_SUCH;
        if (!in(what, 0, 13)) return Check.BAD_VALUE;
        OneUnit u = w.units.get(unit);
        int[] all = {u.byHand[0], u.byHand[1], u.byHand[2], u.feed, u.sum, left(u.waitEnd), u.misses, left(u.readyEnd),
            u.expectedError, u.expectedSkew, left(u.disturbedFrom + u.duration), left(u.hiddenEnd), left(u.falseEnd),
            w.way(unit)};
        return all[what];
    }

    int errors(int unit, int n, int what) {
        if (unit == 0 || !isUnit(unit)) return Check.NO_SUCH;
        if (!in(n, 1, 60) || !in(what, 0, 3)) return Check.BAD_VALUE;
        OneUnit u = w.units.get(unit);
        List<Integer> latest = u.errors.subList(Math.max(0, u.errors.size() - n), u.errors.size());
        switch (what) {
            case 0: return latest.stream().mapToInt(Math::abs).max().orElse(0);
            case 1: return latest.stream().mapToInt(Math::abs).sum();
            case 2: return latest.size();
            default: return (int) latest.stream().filter(e -> Math.abs(e) > u.settings[6]).count();
        }
    }

    int total(int what) {
        return in(what, 0, 5) ? w.totals[what] : Check.BAD_VALUE;
    }

    int forecast(int unit, int band, int most) {
        if (unit == 0 || !isUnit(unit)) return Check.NO_SUCH;
        if (!in(band, 0, 1000) || !in(most, 5, 300)) return Check.BAD_VALUE;
        World c = w.copied();
        StringBuilder good = new StringBuilder();
        for (int i = 0; i < most; i++) {
            c.repeat();
            Integer error = c.units.get(unit).trueError;
            good.append(error != null && Math.abs(error) <= band ? 'x' : '.');
        }
        int at = good.indexOf("xxxxx");
        return at < 0 ? Check.NONE : at;
    }

    int attempt(int unit, int setting, int value, int n) {
        if (unit == 0 || !isUnit(unit)) return Check.NO_SUCH;
        if (setting < 2 || !isValue(setting, value) || !in(n, 1, 300)) return Check.BAD_VALUE;
        World c = w.copied();
        OneUnit u = c.units.get(unit);
        u.settings[setting] = value;
        int from = u.errors.size();
        for (int i = 0; i < n; i++) c.repeat();
        return u.errors.subList(from, u.errors.size()).stream().mapToInt(Math::abs).sum();
    }

    int bestGain(int unit, int first, int step, int count, int n) {
        if (unit == 0 || !isUnit(unit)) return Check.NO_SUCH;
        if (!in(first, 0, 256) || !in(step, 1, 128) || !in(count, 1, 8) || !in(n, 1, 300)) return Check.BAD_VALUE;
        if (first + (count - 1) * step > 256) return Check.BAD_VALUE;
        int best = first + (count - 1) * step;
        for (int gain = best; gain >= first; gain -= step) {
            if (attempt(unit, 4, gain, n) <= attempt(unit, 4, best, n)) best = gain;
        }
        return best;
    }

    int put(long characters) {
        StringBuilder text = new StringBuilder();
        boolean ended = false;
        for (int i = 0; i < 8; i++) {
            int code = (int) (characters >> 8 * i) & 255;
            if (code == 0) {
                ended = true;
            } else if (ended || !in(code, 33, 126)) {
                return Check.BAD_VALUE;
            } else {
                text.insert(0, (char) code);
            }
        }
        if (text.length() == 0) return Check.BAD_VALUE;
        if (pad.length() + text.length() > 80) return Check.TOO_MANY;
        pad += text;
        return pad.length();
    }

    int wipe() {
        int old = pad.length();
        pad = "";
        return old;
    }

    /** The text is read as far as something that can be matched begins with it. */
    int fault() {
        for (int length = 1; length <= pad.length(); length++) {
            Matcher matcher = TEXT.matcher(pad.substring(0, length));
            if (!matcher.matches() && !matcher.hitEnd()) return length - 1;
        }
        return TEXT.matcher(pad).matches() ? Check.NONE : pad.length();
    }

    int carryOut() {
        if (!TEXT.matcher(pad).matches()) return Check.BAD_TEXT;
        String[] steps = pad.split(",");
        int repeats = 0;
        for (String s : steps) {
            if (s.charAt(0) == 'd' && !isUnit(s.charAt(1) - '0')) return Check.NO_SUCH;
            if (s.charAt(0) == 'n') repeats += Integer.parseInt(s.substring(1));
        }
        if (w.time + repeats > 100000) return Check.NOT_POSSIBLE;
        for (String s : steps) {
            String[] numbers = s.substring(s.charAt(0) == 'd' ? 3 : 1).split("/");
            int number = Integer.parseInt(numbers[0]);
            switch (s.charAt(0)) {
                case 'n':
                    run(number);
                    break;
                case 'v':
                    speed(number);
                    break;
                case 'd':
                    disturb(s.charAt(1) - '0', number, Integer.parseInt(numbers[1]));
                    break;
                default:
                    splice(number, Integer.parseInt(numbers[1]));
                    break;
            }
        }
        pad = "";
        return repeats;
    }

    int count(int what) {
        if (!in(what, 0, 4)) return Check.BAD_VALUE;
        int last = w.way(w.units.size() - 1);
        int splice = w.splice == null ? 0 : Math.max(0, w.splice[0] + last - w.time + 1);
        int[] all = {w.time, w.units.size(), w.speed, splice, pad.length()};
        return all[what];
    }

    int save(int slot) {
        if (!in(slot, 0, 1)) return Check.BAD_VALUE;
        slots[slot] = w.copied();
        return w.time;
    }

    int restore(int slot) {
        if (!in(slot, 0, 1)) return Check.BAD_VALUE;
        if (slots[slot] == null) return Check.NOT_POSSIBLE;
        w = slots[slot].copied();
        return w.time;
    }
}
