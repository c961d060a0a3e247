/** Register control for the printing units of a web press. Lengths are in micrometers, the time is in repeats. */
public final class PrintRegister {
    public static final int NO_SUCH = -1, BAD_VALUE = -2, BAD_TEXT = -3, TOO_MANY = -4, NOT_POSSIBLE = -5, NONE = -6;
    public static final int SHIFT = 1000000000;
    public static final int DISTANCE = 0, SENSOR = 1, WINDOW = 2, MISSES = 3, GAIN = 4, SUM_GAIN = 5, BAND = 6, STEP = 7, LEARN = 8, READY = 9, PUSH = 10;

    private static final int[] LEAST_SETTINGS = {1, 1, 5, 1, 0, 0, 0, 1, 0, 0, -500};
    private static final int[] GREATEST_SETTINGS = {20, 10, 2000, 20, 256, 256, 500, 2000, 256, 30, 500};
    private static final int[] FIRST_SETTINGS = {5, 3, 200, 4, 128, 16, 5, 300, 64, 8, 0};
    private static final int SETTINGS = 11;

    private static final int LEAST_UNITS = 2, FIRST_UNITS = 3, MOST_UNITS = 5;
    private static final int MOST_TIME = 100000, MOST_REPEATS = 300;
    private static final int MOST_SPEED = 1000;
    private static final int MOST_AMOUNT = 3000, MOST_DURATION = 50;
    private static final int MOST_PHASE = 5000, MOST_SKEW = 3000, MOST_FEED = 500, MOST_SUM = 20000;
    private static final int[] MOST_BY_HAND = {5000, 3000, 2000};
    private static final int BY_HAND = 3;
    private static final int LEAST_CHANGE = 10;

    // A sensor sees what was printed at most 10 + 4 * 20 repeats ago; a power of two lets a mask find the place.
    private static final int PRINTS = 128, PRINTS_MASK = 127;
    private static final int KEPT_ERRORS = 60, ERROR_PLACES = 64, ERROR_MASK = 63;

    private static final int NOTHING = 0, TRUE_MARK = 1, FALSE_MARK = 2;

    private static final int RECOGNIZED = 0, FALSE_ONES = 1, MISSED = 2, PHASES = 3, SKEWS = 4, LEARNED = 5, TOTALS = 6;

    private static final int MOST_FORECAST_BAND = 1000, LEAST_FORECAST = 5, SUCCESSIVE = 5;
    private static final int MOST_GAIN = 256, MOST_GAIN_STEP = 128, MOST_GAINS = 8;

    private static final int LONGEST_PAD = 80, LEAST_CODE = 33, GREATEST_CODE = 126, CODES_IN_A_NUMBER = 8;
    private static final int NO_CODE = 0, NO_DIGIT = -1;
    private static final int MOST_STEP_REPEATS = 99, GREATEST_UNIT_DIGIT = 4;

    private final Press press;
    private final Press copy;
    private final Slot slot0;
    private final Slot slot1;
    private final Pad pad;

    public PrintRegister() {
        press = new Press();
        copy = new Press();
        slot0 = new Slot();
        slot1 = new Slot();
        pad = new Pad();
        press.begin(FIRST_UNITS);
    }

    public int setUp(int units) {
        if (isOutside(units, LEAST_UNITS, MOST_UNITS)) return BAD_VALUE - SHIFT;
        int previous = press.time;
        press.begin(units);
        return previous;
    }

    public int set(int unit, int setting, int value) {
        Unit found = press.unitAt(unit);
        if (found == null) return NO_SUCH - SHIFT;
        if (!isSettingValue(setting, value)) return BAD_VALUE - SHIFT;
        if (isPlace(setting) && press.time != 0) return NOT_POSSIBLE - SHIFT;
        int previous = found.setting(setting);
        found.changeSetting(setting, value);
        return previous;
    }

    public int get(int unit, int setting) {
        Unit found = press.unitAt(unit);
        if (found == null) return NO_SUCH - SHIFT;
        if (isOutside(setting, 0, SETTINGS - 1)) return BAD_VALUE - SHIFT;
        return found.setting(setting);
    }

    public int adjust(int unit, int what, int value) {
        Unit found = press.unitAt(unit);
        if (found == null) return NO_SUCH - SHIFT;
        if (isOutside(what, 0, BY_HAND - 1)) return BAD_VALUE - SHIFT;
        if (isOutside(value, -MOST_BY_HAND[what], MOST_BY_HAND[what])) return BAD_VALUE - SHIFT;
        int previous = found.printer.byHand(what);
        found.printer.changeByHand(what, value);
        return previous;
    }

    public int restart(int unit) {
        Unit found = press.unitAt(unit);
        if (found == null) return NO_SUCH - SHIFT;
        int previous = found.controller.feed;
        found.controller.clear();
        return previous;
    }

    public int speed(int speed) {
        if (isOutside(speed, 0, MOST_SPEED)) return BAD_VALUE - SHIFT;
        int previous = press.speedNow;
        press.speedNow = speed;
        return previous;
    }

    public int disturb(int unit, int amount, int duration) {
        Unit found = press.unitAt(unit);
        if (found == null) return NO_SUCH - SHIFT;
        if (!isDisturbance(amount, duration)) return BAD_VALUE - SHIFT;
        found.printer.beDisturbed(amount, duration);
        return press.time;
    }

    public int hide(int unit, int repeats) {
        Unit found = press.unitAt(unit);
        if (found == null) return NO_SUCH - SHIFT;
        if (isOutside(repeats, 0, MOST_DURATION)) return BAD_VALUE - SHIFT;
        int previous = found.sensor.hiddenLeft;
        found.sensor.hiddenLeft = repeats;
        return previous;
    }

    public int falseMark(int unit, int offset, int repeats) {
        Unit found = press.unitAt(unit);
        if (found == null) return NO_SUCH - SHIFT;
        if (isOutside(offset, -MOST_AMOUNT, MOST_AMOUNT)) return BAD_VALUE - SHIFT;
        if (isOutside(repeats, 0, MOST_DURATION)) return BAD_VALUE - SHIFT;
        int previous = found.sensor.falseLeft;
        found.sensor.falseOffset = offset;
        found.sensor.falseLeft = repeats;
        return previous;
    }

    public int splice(int amount, int duration) {
        if (!isDisturbance(amount, duration)) return BAD_VALUE - SHIFT;
        press.startSplice(amount, duration);
        return press.repeatsToLastUnit();
    }

    public int run(int n) {
        if (isOutside(n, 1, MOST_REPEATS)) return BAD_VALUE - SHIFT;
        if (press.time + n > MOST_TIME) return NOT_POSSIBLE - SHIFT;
        for (int i = 0; i < n; i++) press.makeRepeat();
        return press.time;
    }

    public int seen(int unit, int what) {
        Unit found = press.unitAt(unit);
        if (found == null) return NO_SUCH - SHIFT;
        if (isOutside(what, 0, 6)) return BAD_VALUE - SHIFT;
        if (press.time == 0) return NOT_POSSIBLE - SHIFT;
        if (what == 0) return found.printer.offsetAt(press.time - 1);
        if (what == 1) return found.printer.skewAt(press.time - 1);
        Sensor sensor = found.sensor;
        boolean known = what <= 4 ? sensor.sawPiece : sensor.recognized != NOTHING;
        return known ? sensor.sight(what) : NONE - SHIFT;
    }

    public int state(int unit, int what) {
        Unit found = press.unitAt(unit);
        if (found == null) return NO_SUCH - SHIFT;
        switch (what) {
            case 0:
            case 1:
            case 2: return found.printer.byHand(what);
            case 3: return found.controller.feed;
            case 4: return found.controller.sum;
            case 5: return found.controller.wait;
            case 6: return found.controller.misses;
            case 7: return found.controller.readyTime;
            case 8: return found.controller.expectedError;
            case 9: return found.controller.expectedSkew;
            case 10: return found.printer.disturbanceLeft;
            case 11: return found.sensor.hiddenLeft;
            case 12: return found.sensor.falseLeft;
            case 13: return press.wayOf(unit);
            default: return BAD_VALUE - SHIFT;
        }
    }

    public int errors(int unit, int n, int what) {
        Unit found = press.controlledUnitAt(unit);
        if (found == null) return NO_SUCH - SHIFT;
        if (isOutside(n, 1, KEPT_ERRORS)) return BAD_VALUE - SHIFT;
        ErrorLog log = found.sensor.log;
        switch (what) {
            case 0: return log.greatest(n);
            case 1: return log.sumOf(n);
            case 2: return log.kept(n);
            case 3: return log.greaterThan(n, found.setting(BAND));
            default: return BAD_VALUE - SHIFT;
        }
    }

    public int total(int what) {
        if (isOutside(what, 0, TOTALS - 1)) return BAD_VALUE - SHIFT;
        return press.totals[what];
    }

    public int forecast(int unit, int band, int most) {
        Unit found = press.controlledUnitAt(unit);
        if (found == null) return NO_SUCH - SHIFT;
        if (isOutside(band, 0, MOST_FORECAST_BAND)) return BAD_VALUE - SHIFT;
        if (isOutside(most, LEAST_FORECAST, MOST_REPEATS)) return BAD_VALUE - SHIFT;
        copy.copyFrom(press);
        int successive = 0;
        for (int made = 1; made <= most; made++) {
            copy.makeRepeat();
            successive = copy.isWithin(unit, band) ? successive + 1 : 0;
            if (successive == SUCCESSIVE) return made - SUCCESSIVE;
        }
        return NONE - SHIFT;
    }

    public int attempt(int unit, int setting, int value, int n) {
        Unit found = press.controlledUnitAt(unit);
        if (found == null) return NO_SUCH - SHIFT;
        if (isPlace(setting) || !isSettingValue(setting, value)) return BAD_VALUE - SHIFT;
        if (isOutside(n, 1, MOST_REPEATS)) return BAD_VALUE - SHIFT;
        return copy.sumErrorsIn(press, unit, setting, value, n);
    }

    public int bestGain(int unit, int first, int step, int count, int n) {
        Unit found = press.controlledUnitAt(unit);
        if (found == null) return NO_SUCH - SHIFT;
        if (isOutside(first, 0, MOST_GAIN)) return BAD_VALUE - SHIFT;
        if (isOutside(step, 1, MOST_GAIN_STEP)) return BAD_VALUE - SHIFT;
        if (isOutside(count, 1, MOST_GAINS)) return BAD_VALUE - SHIFT;
        if (first + step * (count - 1) > MOST_GAIN) return BAD_VALUE - SHIFT;
        if (isOutside(n, 1, MOST_REPEATS)) return BAD_VALUE - SHIFT;
        int best = first;
        int least = copy.sumErrorsIn(press, unit, GAIN, first, n);
        for (int i = 1; i < count; i++) {
            int gain = first + step * i;
            int sum = copy.sumErrorsIn(press, unit, GAIN, gain, n);
            if (sum < least) {
                least = sum;
                best = gain;
            }
        }
        return best;
    }

    public int put(long characters) {
        int length = charactersIn(characters);
        if (length == 0) return BAD_VALUE - SHIFT;
        if (pad.length + length > LONGEST_PAD) return TOO_MANY - SHIFT;
        for (int i = length - 1; i >= 0; i--) pad.append((int) (characters >>> (8 * i)) & 255);
        return pad.length;
    }

    public int wipe() {
        int previous = pad.length;
        pad.length = 0;
        return previous;
    }

    public int fault() {
        pad.readAll();
        return pad.failed ? pad.at : NONE - SHIFT;
    }

    public int carryOut() {
        pad.readAll();
        if (pad.failed) return BAD_TEXT - SHIFT;
        int repeats = pad.repeats;
        if (pad.greatestUnit >= press.unitCount) return NO_SUCH - SHIFT;
        if (press.time + repeats > MOST_TIME) return NOT_POSSIBLE - SHIFT;
        pad.beginReading();
        for (int steps = 0; steps < LONGEST_PAD && pad.hasMore(); steps++) {
            pad.readStep();
            carryOutStep();
        }
        pad.length = 0;
        return repeats;
    }

    public int count(int what) {
        switch (what) {
            case 0: return press.time;
            case 1: return press.unitCount;
            case 2: return press.speedNow;
            case 3: return press.repeatsToLastUnit();
            case 4: return pad.length;
            default: return BAD_VALUE - SHIFT;
        }
    }

    public int save(int slot) {
        Slot found = slotAt(slot);
        if (found == null) return BAD_VALUE - SHIFT;
        found.saved.copyFrom(press);
        found.isUsed = true;
        return press.time;
    }

    public int restore(int slot) {
        Slot found = slotAt(slot);
        if (found == null) return BAD_VALUE - SHIFT;
        if (!found.isUsed) return NOT_POSSIBLE - SHIFT;
        press.copyFrom(found.saved);
        return press.time;
    }

    private Slot slotAt(int slot) {
        if (slot == 0) return slot0;
        return slot == 1 ? slot1 : null;
    }

    private void carryOutStep() {
        switch (pad.kind) {
            case 'n':
                for (int i = 0; i < pad.number; i++) press.makeRepeat();
                break;
            case 'v':
                press.speedNow = pad.number;
                break;
            case 'd':
                Unit found = press.unitAt(pad.unit);
                if (found != null) found.printer.beDisturbed(pad.number, pad.duration);
                break;
            case 'p':
                press.startSplice(pad.number, pad.duration);
                break;
            default:
                break;
        }
    }

    /** The number of characters that a number for put() holds, 0 if it is not as it should be. */
    private static int charactersIn(long characters) {
        long rest = characters;
        int length = 0;
        while (rest != 0 && length < CODES_IN_A_NUMBER) {
            if (isOutside((int) (rest & 255), LEAST_CODE, GREATEST_CODE)) return 0;
            rest >>>= 8;
            length++;
        }
        return length;
    }

    private static boolean isOutside(int value, int least, int greatest) {
        return value < least || value > greatest;
    }

    private static boolean isSettingValue(int setting, int value) {
        if (setting < 0 || setting >= SETTINGS) return false;
        return !isOutside(value, LEAST_SETTINGS[setting], GREATEST_SETTINGS[setting]);
    }

    /** Where units and sensors stand is settled before the first repeat. */
    private static boolean isPlace(int setting) {
        return setting == DISTANCE || setting == SENSOR;
    }

    private static boolean isDisturbance(int amount, int duration) {
        return !isOutside(amount, -MOST_AMOUNT, MOST_AMOUNT) && !isOutside(duration, 1, MOST_DURATION);
    }

    private static int limited(int value, int most) {
        if (value > most) return most;
        return value < -most ? -most : value;
    }

    private static int lessOne(int left) {
        return left > 0 ? left - 1 : 0;
    }

    /** Everything that is saved in a slot and copied for a forecast. */
    private static final class Press {
        private final Unit[] units = new Unit[MOST_UNITS];
        private final int[] changes = new int[PRINTS];
        private final int[] totals = new int[TOTALS];
        private int unitCount;
        private int time;
        private int speedNow;
        private int speedBefore;
        private int spliceStart;
        private int spliceAmount;
        /** 0 if there is no splice. */
        private int spliceDuration;

        Press() {
            for (int u = 0; u < MOST_UNITS; u++) units[u] = new Unit();
        }

        void begin(int newUnitCount) {
            unitCount = newUnitCount;
            time = 0;
            speedNow = 0;
            speedBefore = 0;
            spliceStart = 0;
            spliceAmount = 0;
            spliceDuration = 0;
            for (int i = 0; i < TOTALS; i++) totals[i] = 0;
            for (int u = 0; u < MOST_UNITS; u++) units[u].begin();
        }

        void copyFrom(Press other) {
            unitCount = other.unitCount;
            time = other.time;
            speedNow = other.speedNow;
            speedBefore = other.speedBefore;
            spliceStart = other.spliceStart;
            spliceAmount = other.spliceAmount;
            spliceDuration = other.spliceDuration;
            System.arraycopy(other.changes, 0, changes, 0, PRINTS);
            System.arraycopy(other.totals, 0, totals, 0, TOTALS);
            for (int u = 0; u < unitCount; u++) units[u].copyFrom(other.units[u]);
        }

        /** The unit of this number, null if there is none. */
        Unit unitAt(int number) {
            return number >= 0 && number < unitCount ? units[number] : null;
        }

        /** As unitAt(), but null for the reference, which has no controller. */
        Unit controlledUnitAt(int number) {
            return number == 0 ? null : unitAt(number);
        }

        int wayOf(int number) {
            int way = 0;
            for (int u = 1; u <= number && u < unitCount; u++) way += units[u].setting(DISTANCE);
            return way;
        }

        void startSplice(int amount, int duration) {
            spliceStart = time;
            spliceAmount = amount;
            spliceDuration = duration;
        }

        int repeatsToLastUnit() {
            if (spliceDuration == 0) return 0;
            return Math.max(0, spliceStart + wayOf(unitCount - 1) + 1 - time);
        }

        boolean isWithin(int number, int band) {
            Unit unit = unitAt(number);
            return unit != null && unit.sensor.sawPiece && Math.abs(unit.sensor.trueError) <= band;
        }

        /** Becomes a copy, sets a setting, makes n repeats, and adds up the sizes of the true errors in them. */
        int sumErrorsIn(Press other, int number, int setting, int value, int n) {
            copyFrom(other);
            Unit unit = unitAt(number);
            if (unit == null) return 0;
            unit.changeSetting(setting, value);
            int sum = 0;
            for (int i = 0; i < n; i++) {
                makeRepeat();
                if (unit.sensor.sawPiece) sum += Math.abs(unit.sensor.trueError);
            }
            return sum;
        }

        void makeRepeat() {
            int change = speedNow - speedBefore;
            changes[time & PRINTS_MASK] = change;
            bringSplice();
            for (int u = 0; u < unitCount; u++) units[u].printPiece(time, change);
            int way = 0;
            for (int u = 1; u < unitCount; u++) {
                way += units[u].setting(DISTANCE);
                watchUnit(units[u], way);
            }
            for (int u = 0; u < unitCount; u++) units[u].endRepeat();
            speedBefore = speedNow;
            time++;
        }

        private void bringSplice() {
            if (spliceDuration == 0) return;
            int way = 0;
            for (int u = 0; u < unitCount; u++) {
                if (u > 0) way += units[u].setting(DISTANCE);
                if (time == spliceStart + way) units[u].beSpliced(spliceAmount, spliceDuration);
            }
        }

        private void watchUnit(Unit unit, int way) {
            int printed = time - unit.setting(SENSOR);
            int printedByFirst = printed - way;
            if (printedByFirst < 0) {
                unit.sensor.seeNothing();
                return;
            }
            int error = unit.printer.offsetAt(printed) - units[0].printer.offsetAt(printedByFirst);
            unit.sensor.seePiece(error, unit.printer.skewAt(printed));
            if (unit.recognizeMark()) {
                totals[RECOGNIZED]++;
                if (unit.sensor.recognized == FALSE_MARK) totals[FALSE_ONES]++;
                control(unit, changes[printed & PRINTS_MASK]);
            } else {
                totals[MISSED]++;
            }
        }

        private void control(Unit unit, int change) {
            if (unit.learnFrom(change)) totals[LEARNED]++;
            unit.expectAsMeasured();
            if (unit.controller.wait != 0) return;
            boolean phaseIsOff = unit.isOff(unit.sensor.offset);
            boolean skewIsOff = unit.isOff(unit.sensor.skew);
            if (!phaseIsOff && !skewIsOff) return;
            unit.controller.addedPhase = phaseIsOff ? unit.correctPhase() : 0;
            unit.controller.addedSkew = skewIsOff ? unit.correctSkew() : 0;
            unit.controller.wait = unit.setting(SENSOR) + 1;
            if (phaseIsOff) totals[PHASES]++;
            if (skewIsOff) totals[SKEWS]++;
        }
    }

    private static final class Unit {
        private final int[] settings = new int[SETTINGS];
        private final Printer printer = new Printer();
        private final Controller controller = new Controller();
        private final Sensor sensor = new Sensor();

        void begin() {
            for (int i = 0; i < SETTINGS; i++) settings[i] = FIRST_SETTINGS[i];
            printer.begin();
            controller.clear();
            sensor.begin();
        }

        void copyFrom(Unit other) {
            System.arraycopy(other.settings, 0, settings, 0, SETTINGS);
            printer.copyFrom(other.printer);
            controller.copyFrom(other.controller);
            sensor.copyFrom(other.sensor);
        }

        int setting(int number) {
            return number >= 0 && number < SETTINGS ? settings[number] : 0;
        }

        void changeSetting(int number, int value) {
            if (number >= 0 && number < SETTINGS) settings[number] = value;
        }

        void beSpliced(int amount, int duration) {
            printer.beDisturbed(amount, duration);
            controller.sum = 0;
            controller.readyTime = setting(SENSOR) + setting(READY);
        }

        void printPiece(int time, int change) {
            printer.printPiece(time, (setting(PUSH) - controller.feed) * change / 100);
        }

        /** Recognizes a mark on the piece that the sensor sees; tells whether there was one. */
        boolean recognizeMark() {
            sensor.recognizeNear(controller.expectedError, controller.expectedSkew, window());
            boolean found = sensor.recognized != NOTHING;
            controller.misses = found ? 0 : controller.misses + 1;
            return found;
        }

        private int window() {
            boolean isWide = controller.misses >= setting(MISSES) || controller.readyTime > 0;
            return isWide ? 4 * setting(WINDOW) : setting(WINDOW);
        }

        /** Learns from what was recognized on a piece printed at a change of speed; tells whether it did. */
        boolean learnFrom(int change) {
            if (Math.abs(change) < LEAST_CHANGE || change == 0 || setting(LEARN) <= 0) return false;
            int surprise = sensor.offset - controller.expectedError;
            int feed = controller.feed + surprise * 100 / change * setting(LEARN) / 256;
            controller.feed = limited(feed, MOST_FEED);
            return true;
        }

        void expectAsMeasured() {
            controller.expectedError = sensor.offset;
            controller.expectedSkew = sensor.skew;
        }

        boolean isOff(int measured) {
            return Math.abs(measured) > setting(BAND);
        }

        /** Corrects the phase, and tells what this has added to it. */
        int correctPhase() {
            int offset = sensor.offset;
            controller.sum = limited(controller.sum + offset, MOST_SUM);
            int correction = -(setting(GAIN) * offset + setting(SUM_GAIN) * controller.sum) / 256;
            int before = printer.phase;
            printer.phase = limited(before + limited(correction, setting(STEP)), MOST_PHASE);
            return printer.phase - before;
        }

        /** Corrects the skew setting, and tells what this has added to it. */
        int correctSkew() {
            int correction = -(setting(GAIN) * sensor.skew) / 256;
            int before = printer.skewSetting;
            printer.skewSetting = limited(before + limited(correction, setting(STEP)), MOST_SKEW);
            return printer.skewSetting - before;
        }

        void endRepeat() {
            controller.endRepeat();
            printer.disturbanceLeft = lessOne(printer.disturbanceLeft);
            sensor.hiddenLeft = lessOne(sensor.hiddenLeft);
            sensor.falseLeft = lessOne(sensor.falseLeft);
        }
    }

    /** What a unit prints, and what it has printed lately. */
    private static final class Printer {
        private final int[] offsets = new int[PRINTS];
        private final int[] skews = new int[PRINTS];
        private int phase;
        private int skewSetting;
        private int tilt;
        private int disturbanceAmount;
        private int disturbanceDuration;
        private int disturbanceLeft;

        // What was printed before is never looked at again: nothing is seen before the first pieces arrive.
        void begin() {
            phase = 0;
            skewSetting = 0;
            tilt = 0;
            disturbanceAmount = 0;
            disturbanceDuration = 0;
            disturbanceLeft = 0;
        }

        void copyFrom(Printer other) {
            System.arraycopy(other.offsets, 0, offsets, 0, PRINTS);
            System.arraycopy(other.skews, 0, skews, 0, PRINTS);
            phase = other.phase;
            skewSetting = other.skewSetting;
            tilt = other.tilt;
            disturbanceAmount = other.disturbanceAmount;
            disturbanceDuration = other.disturbanceDuration;
            disturbanceLeft = other.disturbanceLeft;
        }

        /** What adjust() changes, by its numbers. */
        int byHand(int what) {
            switch (what) {
                case 0: return phase;
                case 1: return skewSetting;
                default: return tilt;
            }
        }

        void changeByHand(int what, int value) {
            switch (what) {
                case 0:
                    phase = value;
                    break;
                case 1:
                    skewSetting = value;
                    break;
                default:
                    tilt = value;
                    break;
            }
        }

        void beDisturbed(int amount, int duration) {
            disturbanceAmount = amount;
            disturbanceDuration = duration;
            disturbanceLeft = duration;
        }

        private int disturbance() {
            if (disturbanceLeft <= 0 || disturbanceDuration <= 0) return 0;
            return disturbanceAmount * disturbanceLeft / disturbanceDuration;
        }

        void printPiece(int time, int pushed) {
            offsets[time & PRINTS_MASK] = phase + disturbance() + pushed;
            skews[time & PRINTS_MASK] = tilt + skewSetting;
        }

        int offsetAt(int time) {
            return offsets[time & PRINTS_MASK];
        }

        int skewAt(int time) {
            return skews[time & PRINTS_MASK];
        }
    }

    private static final class Controller {
        private int feed;
        private int sum;
        private int wait;
        private int misses;
        private int readyTime;
        private int expectedError;
        private int expectedSkew;
        /** What the latest correction has added, as far as the limits allowed. */
        private int addedPhase;
        private int addedSkew;

        void clear() {
            feed = 0;
            sum = 0;
            wait = 0;
            misses = 0;
            readyTime = 0;
            expectedError = 0;
            expectedSkew = 0;
            addedPhase = 0;
            addedSkew = 0;
        }

        void copyFrom(Controller other) {
            feed = other.feed;
            sum = other.sum;
            wait = other.wait;
            misses = other.misses;
            readyTime = other.readyTime;
            expectedError = other.expectedError;
            expectedSkew = other.expectedSkew;
            addedPhase = other.addedPhase;
            addedSkew = other.addedSkew;
        }

        void endRepeat() {
            if (wait > 0) {
                wait--;
                if (wait == 0) {
                    expectedError += addedPhase;
                    expectedSkew += addedSkew;
                }
            }
            readyTime = lessOne(readyTime);
        }
    }

    /** What stands before a sensor, and what it saw in the latest repeat. */
    private static final class Sensor {
        private final ErrorLog log = new ErrorLog();
        private int hiddenLeft;
        private int falseOffset;
        private int falseLeft;
        private boolean sawPiece;
        private int trueError;
        private int trueSkew;
        private int recognized;
        private int offset;
        private int skew;

        void begin() {
            log.begin();
            hiddenLeft = 0;
            falseOffset = 0;
            falseLeft = 0;
            seeNothing();
            trueError = 0;
            trueSkew = 0;
            offset = 0;
            skew = 0;
        }

        void copyFrom(Sensor other) {
            log.copyFrom(other.log);
            hiddenLeft = other.hiddenLeft;
            falseOffset = other.falseOffset;
            falseLeft = other.falseLeft;
            sawPiece = other.sawPiece;
            trueError = other.trueError;
            trueSkew = other.trueSkew;
            recognized = other.recognized;
            offset = other.offset;
            skew = other.skew;
        }

        void seeNothing() {
            sawPiece = false;
            recognized = NOTHING;
        }

        void seePiece(int error, int skewOfPiece) {
            sawPiece = true;
            recognized = NOTHING;
            trueError = error;
            trueSkew = skewOfPiece;
            log.add(error);
        }

        void recognizeNear(int expectedError, int expectedSkew, int window) {
            int trueDistance = Math.abs(trueError - expectedError);
            int falseDistance = Math.abs(falseOffset - expectedError);
            boolean trueFits = hiddenLeft == 0 && trueDistance <= window;
            boolean falseFits = falseLeft > 0 && falseDistance <= window;
            if (trueFits && (!falseFits || trueDistance <= falseDistance)) {
                recognized = TRUE_MARK;
                offset = trueError;
                skew = trueSkew;
            } else if (falseFits) {
                recognized = FALSE_MARK;
                offset = falseOffset;
                skew = expectedSkew;
            }
        }

        /** The numbers 2 to 6 of seen(). */
        int sight(int what) {
            switch (what) {
                case 2: return trueError;
                case 3: return trueSkew;
                case 4: return recognized;
                case 5: return offset;
                default: return skew;
            }
        }
    }

    /** The latest true errors that a sensor saw. */
    private static final class ErrorLog {
        private final int[] places = new int[ERROR_PLACES];
        private int added;

        void begin() {
            added = 0;
        }

        void copyFrom(ErrorLog other) {
            System.arraycopy(other.places, 0, places, 0, ERROR_PLACES);
            added = other.added;
        }

        void add(int error) {
            places[added & ERROR_MASK] = error;
            added++;
        }

        /** How many there are of the latest n. */
        int kept(int n) {
            return Math.min(Math.min(n, KEPT_ERRORS), added);
        }

        /** The absolute value of the error that was added as the i-th from the end, i from 1. */
        private int sizeOf(int i) {
            return Math.abs(places[(added - i) & ERROR_MASK]);
        }

        int greatest(int n) {
            int greatest = 0;
            for (int i = 1; i <= kept(n); i++) greatest = Math.max(greatest, sizeOf(i));
            return greatest;
        }

        int sumOf(int n) {
            int sum = 0;
            for (int i = 1; i <= kept(n); i++) sum += sizeOf(i);
            return sum;
        }

        int greaterThan(int n, int band) {
            int found = 0;
            for (int i = 1; i <= kept(n); i++) {
                if (sizeOf(i) > band) found++;
            }
            return found;
        }
    }

    private static final class Slot {
        private final Press saved = new Press();
        private boolean isUsed;
    }

    /** A text, which is read from left to right up to its fault. */
    private static final class Pad {
        private final int[] codes = new int[LONGEST_PAD];
        private int length;
        /** The place of the next character; the fault, if reading failed. */
        private int at;
        private boolean failed;
        /** The step that was read last: its letter, and what it says. */
        private int kind;
        private int unit;
        private int number;
        private int duration;
        /** What all steps of the text need together. */
        private int repeats;
        private int greatestUnit;

        void append(int code) {
            if (length >= 0 && length < LONGEST_PAD) {
                codes[length] = code;
                length++;
            }
        }

        /** The code at a place, NO_CODE behind the end. */
        private int codeAt(int place) {
            return place >= 0 && place < length && place < LONGEST_PAD ? codes[place] : NO_CODE;
        }

        void beginReading() {
            at = 0;
            failed = false;
        }

        boolean hasMore() {
            return !failed && at < length;
        }

        void readAll() {
            beginReading();
            repeats = 0;
            greatestUnit = 0;
            int steps = 0;
            do {
                readStep();
                if (kind == 'n') repeats += number;
                if (kind == 'd') greatestUnit = Math.max(greatestUnit, unit);
                steps++;
            } while (hasMore() && steps < LONGEST_PAD);
        }

        void readStep() {
            if (at > 0) readSign(',');
            kind = codeAt(at);
            switch (kind) {
                case 'n':
                    readSign('n');
                    number = readNumber(1, MOST_STEP_REPEATS);
                    break;
                case 'v':
                    readSign('v');
                    number = readNumber(0, MOST_SPEED);
                    break;
                case 'd':
                    readSign('d');
                    unit = readUnit();
                    readSign(':');
                    readDisturbance();
                    break;
                case 'p':
                    readSign('p');
                    readDisturbance();
                    break;
                default:
                    failed = true;
                    break;
            }
        }

        private void readSign(char sign) {
            if (codeAt(at) != sign) failed = true;
            if (!failed) at++;
        }

        private int readUnit() {
            int digit = digitAt(at);
            if (digit == NO_DIGIT || digit > GREATEST_UNIT_DIGIT) failed = true;
            if (failed) return 0;
            at++;
            return digit;
        }

        private void readDisturbance() {
            boolean isNegative = codeAt(at) == '-';
            if (isNegative) readSign('-');
            int amount = readNumber(0, MOST_AMOUNT);
            number = isNegative ? -amount : amount;
            readSign('/');
            duration = readNumber(1, MOST_DURATION);
        }

        private int readNumber(int least, int greatest) {
            int value = digitAt(at);
            if (value == NO_DIGIT || value < least) failed = true;
            if (failed) return 0;
            at++;
            while (at < length && digitAt(at) != NO_DIGIT) {
                int longer = 10 * value + digitAt(at);
                // Behind a 0 another digit would make it a leading zero.
                if (value == 0 || longer > greatest) {
                    failed = true;
                    return 0;
                }
                value = longer;
                at++;
            }
            return value;
        }

        private int digitAt(int place) {
            int code = codeAt(place);
            return code >= '0' && code <= '9' ? code - '0' : NO_DIGIT;
        }
    }
}
