/** "A repeat", step by step, with the last number that is inside and the first that is outside of each limit. */
public final class RepeatTest {
    private static final int DISTANCE = PrintRegister.DISTANCE, SENSOR = PrintRegister.SENSOR, WINDOW = PrintRegister.WINDOW;
    private static final int MISSES = PrintRegister.MISSES, GAIN = PrintRegister.GAIN, SUM_GAIN = PrintRegister.SUM_GAIN;
    private static final int BAND = PrintRegister.BAND, STEP = PrintRegister.STEP, LEARN = PrintRegister.LEARN;
    private static final int READY = PrintRegister.READY, PUSH = PrintRegister.PUSH;

    public static void main(String[] args) {
        distanceOfUnit0();
        sensorOfUnit0();
        waysOfUnits();
        spliceMakesSumAndReadyTime();
        spliceOverASplice();
        readyTimeEndsAlone();
        offsetsAtTheirGreatest();
        changesOfSpeed();
        firstPiece();
        firstPieceOfEachUnit();
        nothingSeenLeavesOutTheRest();
        whichPiece();
        longestWay();
        settingsAsTheyAreNow();
        windowOfOneMiss();
        windowWhileReady();
        oneOfTwoCandidates();
        missLeavesOutTheRest();
        missesAreCounted();
        learningRows();
        whichChangeIsLearnedFrom();
        learningFromWhatWasNotExpected();
        bandOfPhases();
        bandOfSkews();
        stepOfPhases();
        stepOfSkews();
        divisionsOfCorrections();
        limitOfThePhase();
        limitOfTheSkewSetting();
        limitOfTheSum();
        waitOfEachSensor();
        expectedBehindTheWait();
        phaseAndSkewAlone();
        waitThatIsHidden();
        gainsOf0();
        totalsOfAllUnits();
        Check.end("RepeatTest");
    }

    private static void due(String what, long got, long want) {
        Check.due(what, got, want);
    }

    /** Two units, one behind the other: what unit 1 prints in a repeat is seen in the next one, first in the third. */
    private static PrintRegister two() {
        PrintRegister x = new PrintRegister();
        x.setUp(2);
        x.set(1, DISTANCE, 1);
        x.set(1, SENSOR, 1);
        x.set(1, WINDOW, 2000);
        return x;
    }

    /** As two(), but a correction changes nothing. */
    private static PrintRegister idle() {
        PrintRegister x = two();
        x.set(1, GAIN, 0);
        x.set(1, SUM_GAIN, 0);
        x.set(1, BAND, 500);
        return x;
    }

    /** As two(), and what is measured is corrected in full, however small it is. */
    private static PrintRegister full() {
        PrintRegister x = two();
        x.set(1, GAIN, 256);
        x.set(1, SUM_GAIN, 0);
        x.set(1, BAND, 0);
        x.set(1, STEP, 2000);
        return x;
    }

    /** "DISTANCE .. has no effect for unit 0" */
    private static void distanceOfUnit0() {
        PrintRegister x = new PrintRegister();
        PrintRegister y = new PrintRegister();
        x.set(0, DISTANCE, 20);
        y.set(0, DISTANCE, 1);
        due("splice", x.splice(300, 4), 11);
        due("splice", y.splice(300, 4), 11);
        for (int i = 0; i < 20; i++) {
            x.run(1);
            y.run(1);
            due("count(3)", x.count(3), y.count(3));
            for (int u = 0; u < 3; u++) {
                due("offset", x.seen(u, 0), y.seen(u, 0));
                due("true error", x.seen(u, 2), y.seen(u, 2));
                due("ready time", x.state(u, 7), y.state(u, 7));
                due("way", x.state(u, 13), 5 * u);
            }
        }
    }

    /** SENSOR and READY of unit 0 have an effect on its ready time alone. */
    private static void sensorOfUnit0() {
        for (int sensor : new int[] {1, 10}) {
            for (int ready : new int[] {0, 30}) {
                PrintRegister x = new PrintRegister();
                x.set(0, SENSOR, sensor);
                x.set(0, READY, ready);
                due("splice", x.splice(1, 1), 11);
                x.run(1);
                due("ready time of unit 0", x.state(0, 7), sensor + ready - 1);
                x.run(7);
                due("unit 1 sees nothing yet", x.seen(1, 2), Check.NONE);
                x.run(1);
                due("and now it does", x.seen(1, 2), 0);
            }
        }
    }

    /** "the sum of the DISTANCEs of the units 1 to this one (0 for unit 0)" */
    private static void waysOfUnits() {
        PrintRegister x = new PrintRegister();
        x.setUp(5);
        int[] distances = {20, 1, 20, 7, 3};
        for (int u = 0; u < 5; u++) x.set(u, DISTANCE, distances[u]);
        int[] ways = {0, 1, 21, 28, 31};
        for (int u = 0; u < 5; u++) due("way of " + u, x.state(u, 13), ways[u]);
        due("splice", x.splice(0, 1), 32);
    }

    /** Step 1: "its sum becomes 0, its ready time becomes SENSOR + READY (also those of unit 0)" */
    private static void spliceMakesSumAndReadyTime() {
        for (int sensor : new int[] {1, 2, 10}) {
            for (int ready : new int[] {0, 1, 30}) {
                for (int distance : new int[] {1, 4, 20}) {
                    PrintRegister x = spliced(sensor, ready, distance);
                    PrintRegister y = spliced(sensor, ready, distance);
                    due("splice", x.splice(0, 1), distance + 1);
                    for (int i = 0; i <= distance; i++) {
                        int sum = y.state(1, 4);
                        x.run(1);
                        y.run(1);
                        if (i == 0) due("ready time of unit 0", x.state(0, 7), 10 - sensor + 1 + 30 - ready - 1);
                        due("sum in the repeat " + i, x.state(1, 4), i < distance ? y.state(1, 4) : y.state(1, 4) - sum);
                        due("ready time", x.state(1, 7), i < distance ? 0 : sensor + ready - 1);
                        for (int what : new int[] {0, 1, 3, 5, 6, 8, 9}) due("state " + what, x.state(1, what), y.state(1, what));
                    }
                    for (int left = sensor + ready - 2; left >= -2; left--) {
                        x.run(1);
                        due("ready time goes by", x.state(1, 7), Math.max(left, 0));
                    }
                }
            }
        }
    }

    private static PrintRegister spliced(int sensor, int ready, int distance) {
        PrintRegister x = idle();
        x.setUp(2);
        x.set(1, DISTANCE, distance);
        x.set(1, SENSOR, sensor);
        x.set(1, READY, ready);
        x.set(0, SENSOR, 10 - sensor + 1);
        x.set(0, READY, 30 - ready);
        x.set(1, GAIN, 0);
        x.set(1, SUM_GAIN, 0);
        x.adjust(1, 0, 50);
        x.run(60);
        Check.dueTrue("there is a sum", x.state(1, 4) >= 50);
        return x;
    }

    /** "A new splice replaces the one that is under way"; what a unit has got of the old one, it keeps. */
    private static void spliceOverASplice() {
        for (int between = 0; between <= 12; between++) {
            PrintRegister x = new PrintRegister();
            x.set(1, DISTANCE, 3);
            x.set(2, DISTANCE, 4);
            x.run(10);
            x.splice(100, 50);
            if (between > 0) x.run(between);
            due("still to come", x.count(3), Math.max(8 - between, 0));
            due("the new one", x.splice(-200, 40), 8);
            due("has its whole way to go", x.count(3), 8);
            int[] ways = {0, 3, 7};
            for (int i = 0; i < 9; i++) {
                for (int u = 0; u < 3; u++) {
                    boolean hasOld = between > ways[u];
                    boolean hasNew = i > ways[u];
                    int old = hasOld ? 50 - (between - ways[u]) - i : 0;
                    due("left of unit " + u, x.state(u, 10), hasNew ? 40 - (i - ways[u]) : old);
                }
                x.run(1);
            }
            due("none is under way", x.count(3), 0);
        }
    }

    /** A disturbance by hand, and none, leaves sum and ready time. */
    private static void readyTimeEndsAlone() {
        PrintRegister x = idle();
        x.set(1, BAND, 0);
        x.adjust(1, 0, 9);
        x.run(3);
        due("sum", x.state(1, 4), 9);
        x.disturb(1, 1, 5);
        x.run(1);
        due("sum", x.state(1, 4), 9);
        due("ready time", x.state(1, 7), 0);
        x.splice(0, 50);
        x.run(2);
        due("sum", x.state(1, 4), 0);
        due("ready time", x.state(1, 7), 8);
        due("restart", x.restart(1), 0);
        due("ready time then", x.state(1, 7), 0);
    }

    /** Step 2: everything at its greatest, together. */
    private static void offsetsAtTheirGreatest() {
        for (int sign = -1; sign <= 1; sign += 2) {
            PrintRegister x = two();
            x.set(1, MISSES, 1);
            x.set(1, GAIN, 0);
            x.set(1, SUM_GAIN, 0);
            x.set(1, LEARN, 256);
            x.set(1, PUSH, -500 * sign);
            x.run(4);
            x.hide(1, 1);
            x.speed(1000);
            x.run(1);
            due("-500 * 1000 / 100", x.seen(1, 0), -5000 * sign);
            x.run(1);
            due("the feed", x.state(1, 3), -500 * sign);
            x.run(3);
            x.set(1, PUSH, 500 * sign);
            x.set(0, PUSH, -500 * sign);
            x.adjust(1, 0, -5000 * sign);
            x.adjust(0, 0, 5000 * sign);
            x.disturb(0, 3000 * sign, 1);
            x.speed(0);
            x.save(0);
            x.run(1);
            due("5000 + 3000 + 5000", x.seen(0, 0), 13000 * sign);
            due("-5000 - (500 + 500) * 1000 / 100", x.seen(1, 0), -15000 * sign);
            x.restore(0);
            x.disturb(1, -3000 * sign, 50);
            x.run(1);
            due("the greatest of all", x.seen(1, 0), -18000 * sign);
            x.run(1);
            due("beside what unit 0 printed before: 0 + 5000 of its phase was not yet", x.seen(1, 2), -18000 * sign);
            due("kept", x.errors(1, 1, 0), 18000);
            x.run(1);
            due("without a change: -5000 - 3000 * 49 / 50 - 13000", x.seen(1, 2), (-5000 - 2940 - 13000) * sign);
            due("both kept", x.errors(1, 2, 1), 18000 + 20940);
        }
    }

    /** "The change d of a repeat is the speed now minus the speed in the repeat before" */
    private static void changesOfSpeed() {
        PrintRegister x = new PrintRegister();
        x.set(0, PUSH, 100);
        x.run(1);
        due("no speed", x.seen(0, 0), 0);
        int[] speeds = {1000, 0, 1, 1, 999, 1000, 10, 9};
        int before = 0;
        for (int v : speeds) {
            due("speed", x.speed(v), before);
            x.run(1);
            due("the change to " + v, x.seen(0, 0), v - before);
            before = v;
        }
        x.speed(400);
        x.save(0);
        x.run(1);
        due("391", x.seen(0, 0), 391);
        x.speed(20);
        x.run(1);
        due("-380", x.seen(0, 0), -380);
        due("restore", x.restore(0), 9);
        due("the speed of then", x.count(2), 400);
        x.run(1);
        due("the change of then", x.seen(0, 0), 391);
        x.setUp(2);
        x.set(0, PUSH, 100);
        x.speed(3);
        x.run(1);
        due("in the first repeat, the speed before is 0", x.seen(0, 0), 3);
    }

    /** Step 3: "if the time is less than SENSOR + way, nothing is seen" */
    private static void firstPiece() {
        for (int sensor = 1; sensor <= 10; sensor++) {
            for (int distance = 1; distance <= 20; distance++) {
                PrintRegister x = new PrintRegister();
                x.setUp(2);
                x.set(1, SENSOR, sensor);
                x.set(1, DISTANCE, distance);
                x.adjust(1, 0, 3);
                x.adjust(1, 2, 4);
                x.run(sensor + distance);
                for (int what = 2; what < 7; what++) due("the time is less by 1", x.seen(1, what), Check.NONE);
                due("no error is kept", x.errors(1, 60, 2), 0);
                due("no miss", x.total(2), 0);
                x.run(1);
                int[] want = {3, 4, 3, 4, 1, 3, 4};
                for (int what = 0; what < 7; what++) due("the first piece", x.seen(1, what), want[what]);
                due("an error is kept", x.errors(1, 60, 2), 1);
                due("recognized", x.total(0), 1);
            }
        }
    }

    private static void firstPieceOfEachUnit() {
        PrintRegister x = new PrintRegister();
        x.setUp(5);
        int[] distances = {9, 1, 2, 3, 20};
        int[] sensors = {9, 10, 1, 5, 3};
        int[] first = {1000, 11, 4, 11, 29};
        for (int u = 0; u < 5; u++) {
            x.set(u, DISTANCE, distances[u]);
            x.set(u, SENSOR, sensors[u]);
        }
        int errors = 0;
        for (int time = 0; time < 40; time++) {
            x.run(1);
            for (int u = 0; u < 5; u++) {
                due("unit " + u + " at " + time, x.seen(u, 2), time < first[u] ? Check.NONE : 0);
                if (time >= first[u]) errors++;
            }
            due("recognized till " + time, x.total(0), errors);
        }
    }

    /** "nothing is seen, and steps 4 to 7 are left out": a false mark is not seen, either. */
    private static void nothingSeenLeavesOutTheRest() {
        PrintRegister x = two();
        x.set(1, BAND, 0);
        x.falseMark(1, 90, 50);
        x.run(2);
        due("nothing seen", x.seen(1, 4), Check.NONE);
        due("no m", x.seen(1, 5), Check.NONE);
        due("no false mark", x.total(1), 0);
        due("expected error", x.state(1, 8), 0);
        due("phase", x.state(1, 0), 0);
        due("the false mark goes by", x.state(1, 12), 48);
        x.hide(1, 1);
        x.run(1);
        due("the false mark", x.seen(1, 4), 2);
        due("expected error", x.state(1, 8), 90);
    }

    /** "printed SENSOR repeats before this one, and unit 0 (way of the unit) repeats before that" */
    private static void whichPiece() {
        for (int sensor = 1; sensor <= 10; sensor++) {
            for (int distance = 1; distance <= 20; distance++) {
                PrintRegister x = idle();
                x.setUp(2);
                x.set(1, SENSOR, sensor);
                x.set(1, DISTANCE, distance);
                x.set(1, GAIN, 0);
                x.set(1, SUM_GAIN, 0);
                x.run(40);
                x.adjust(1, 0, 700);
                x.adjust(1, 1, 30);
                x.adjust(0, 0, 11);
                x.run(1);
                x.adjust(1, 0, 0);
                x.adjust(1, 1, 0);
                x.adjust(0, 0, 0);
                if (sensor > 1) x.run(sensor - 1);
                due("a repeat too early", x.seen(1, 2), 0);
                x.run(1);
                due("what the unit printed", x.seen(1, 2), 700);
                due("the skew of the unit", x.seen(1, 3), 30);
                x.run(distance - 1 > 0 ? distance - 1 : 1);
                due("unit 0: a repeat too early", x.seen(1, 2), distance > 1 ? 0 : -11);
                if (distance > 1) {
                    x.run(1);
                    due("what unit 0 printed", x.seen(1, 2), -11);
                }
                x.run(1);
                due("a repeat too late", x.seen(1, 2), 0);
            }
        }
    }

    /** What was printed is kept "for as long as sensors may see" it: 10 + 4 * 20 repeats. */
    private static void longestWay() {
        PrintRegister x = new PrintRegister();
        x.setUp(5);
        for (int u = 1; u < 5; u++) x.set(u, DISTANCE, 20);
        x.set(4, SENSOR, 10);
        x.set(4, GAIN, 0);
        x.set(4, SUM_GAIN, 0);
        x.run(300);
        int runs = 160;
        for (int t = 0; t < runs; t++) {
            x.adjust(0, 0, 1 + 31 * t);
            x.run(1);
            due("what unit 0 printed 90 repeats before " + t, x.seen(4, 2), t < 90 ? 0 : -(1 + 31 * (t - 90)));
        }
        x = new PrintRegister();
        x.setUp(2);
        x.set(1, SENSOR, 10);
        x.set(1, GAIN, 0);
        x.set(1, SUM_GAIN, 0);
        x.run(90);
        for (int t = 0; t < 80; t++) {
            x.adjust(1, 0, 7 + t);
            x.adjust(1, 2, 1000 + t);
            x.run(1);
            due("offset that unit 1 printed 10 repeats before " + t, x.seen(1, 2), t < 10 ? 0 : t - 3);
            due("and its skew", x.seen(1, 3), t < 10 ? 0 : 990 + t);
        }
    }

    /** "(All settings are as they are now.)" */
    private static void settingsAsTheyAreNow() {
        PrintRegister x = idle();
        x.run(5);
        x.adjust(1, 0, 150);
        x.run(1);
        x.set(1, WINDOW, 149);
        x.run(1);
        due("the window is 149 now", x.seen(1, 4), 0);
        x.set(1, WINDOW, 150);
        x.run(1);
        due("the window is 150 now", x.seen(1, 4), 1);
        x.set(1, BAND, 149);
        x.set(1, GAIN, 256);
        x.run(1);
        due("the band is 149 now", x.state(1, 0), 0);
        x = idle();
        x.set(1, LEARN, 0);
        x.run(5);
        x.speed(100);
        x.adjust(1, 0, 60);
        x.run(1);
        x.set(1, LEARN, 256);
        x.run(1);
        due("it learns now", x.state(1, 3), 60);
    }

    /** Step 4: "at most the window", of 4 * WINDOW "if the count of misses is at least MISSES" */
    private static void windowOfOneMiss() {
        for (int window : new int[] {5, 6, 200, 1999, 2000}) {
            for (int misses : new int[] {1, 2, 19, 20}) {
                for (int sign = -1; sign <= 1; sign += 2) {
                    dueRecognizedBehind(window, misses, sign * window, 0);
                    dueRecognizedBehind(window, misses, sign * (window + 1), misses);
                    dueRecognizedBehind(window, misses, sign * 4 * window, misses);
                    dueRecognizedBehind(window, misses, sign * (4 * window + 1), -1);
                }
            }
        }
    }

    /** A true error that is recognized behind so many misses, or never (-1). */
    private static void dueRecognizedBehind(int window, int misses, int error, int behind) {
        PrintRegister x = idle();
        x.set(1, WINDOW, window);
        x.set(1, MISSES, misses);
        int own = Math.max(-5000, Math.min(error, 5000));
        x.adjust(1, 0, own);
        x.adjust(0, 0, own - error);
        x.run(2);
        String what = error + " in a window of " + window + " with MISSES " + misses;
        for (int i = 0; i < misses + 3; i++) {
            x.run(1);
            due(what + ": the true error", x.seen(1, 2), error);
            boolean isRecognized = behind >= 0 && i >= behind;
            due(what + ": in the repeat " + i, x.seen(1, 4), isRecognized ? 1 : 0);
            due(what + ": misses", x.state(1, 6), isRecognized ? 0 : i + 1);
            due(what + ": all misses", x.total(2), behind >= 0 ? Math.min(behind, i + 1) : i + 1);
            due(what + ": expected error", x.state(1, 8), isRecognized ? error : 0);
        }
    }

    /** "or the ready time is greater than 0": from the repeat in which the splice comes, SENSOR + READY repeats. */
    private static void windowWhileReady() {
        for (int sensor : new int[] {1, 3}) {
            for (int ready : new int[] {0, 1, 8}) {
                for (int when = 0; when < sensor + ready + 4; when++) {
                    boolean isWide = when >= 1 && when <= sensor + ready;
                    int[] offsets = {100, -100, 101, -101, 400, -400, 401, -401};
                    for (int offset : offsets) {
                        PrintRegister x = idle();
                        x.set(1, SENSOR, sensor);
                        x.set(1, READY, ready);
                        x.set(1, WINDOW, 100);
                        x.set(1, MISSES, 20);
                        x.run(20);
                        x.splice(0, 1);
                        if (when > 0) x.run(when);
                        x.hide(1, 1);
                        x.falseMark(1, offset, 1);
                        x.run(1);
                        boolean isRecognized = Math.abs(offset) <= (isWide ? 400 : 100);
                        due(offset + ", " + when + " repeats behind splice(), SENSOR " + sensor + ", READY " + ready,
                            x.seen(1, 4), isRecognized ? 2 : 0);
                    }
                }
            }
        }
    }

    /** "of two the one that differs less is recognized, the true one if both differ by the same" */
    private static void oneOfTwoCandidates() {
        dueCandidate(150, 0, 9999, 1);
        dueCandidate(151, 0, 9999, 0);
        dueCandidate(50, 0, 9999, 1);
        dueCandidate(49, 0, 9999, 0);
        dueCandidate(100, 1, 9999, 0);
        dueCandidate(100, 1, 150, 2);
        dueCandidate(100, 1, 151, 0);
        dueCandidate(100, 1, 50, 2);
        dueCandidate(100, 1, 49, 0);
        dueCandidate(110, 0, 110, 1);
        dueCandidate(110, 0, 90, 1);
        dueCandidate(90, 0, 110, 1);
        dueCandidate(111, 0, 110, 2);
        dueCandidate(109, 0, 110, 1);
        dueCandidate(89, 0, 110, 2);
        dueCandidate(111, 0, 90, 2);
        dueCandidate(91, 0, 110, 1);
        dueCandidate(110, 0, 91, 2);
        dueCandidate(110, 0, 89, 1);
        dueCandidate(150, 0, 150, 1);
        dueCandidate(150, 0, 50, 1);
        dueCandidate(151, 0, 150, 2);
        dueCandidate(150, 0, 151, 1);
        dueCandidate(49, 0, 150, 2);
        dueCandidate(151, 0, 151, 0);
        dueCandidate(100, 0, 100, 1);
        dueCandidate(101, 0, 100, 2);
        dueCandidate(100, 0, 101, 1);
        dueCandidate(5000, 0, 100, 2);
        dueCandidate(-5000, 0, 3000, 0);
        dueCandidate(110, 0, 0, 1);
    }

    /** The error 100 and the skew 7 are expected, in a window of 50; then come these candidates (9999: no false one). */
    private static void dueCandidate(int error, int hidden, int offset, int want) {
        PrintRegister x = idle();
        x.set(1, WINDOW, 50);
        x.set(1, MISSES, 1);
        x.adjust(1, 0, 100);
        x.adjust(1, 2, 7);
        x.run(10);
        String what = error + (hidden > 0 ? " (hidden)" : "") + " beside " + offset;
        due(what + ": expected error", x.state(1, 8), 100);
        due(what + ": expected skew", x.state(1, 9), 7);
        int recognized = x.total(0);
        int missed = x.total(2);
        x.adjust(1, 0, error);
        x.adjust(1, 2, 9);
        x.run(1);
        x.hide(1, hidden);
        if (offset < 9999) x.falseMark(1, offset, 1);
        x.run(1);
        due(what, x.seen(1, 4), want);
        due(what + ": true error", x.seen(1, 2), error);
        due(what + ": true skew", x.seen(1, 3), 9);
        int m = want == 0 ? Check.NONE : want == 1 ? error : offset;
        int skew = want == 0 ? Check.NONE : want == 1 ? 9 : 7;
        due(what + ": m", x.seen(1, 5), m);
        due(what + ": the measured skew", x.seen(1, 6), skew);
        due(what + ": expected error then", x.state(1, 8), want == 0 ? 100 : m);
        due(what + ": expected skew then", x.state(1, 9), want == 0 ? 7 : skew);
        due(what + ": misses", x.state(1, 6), want == 0 ? 1 : 0);
        due(what + ": recognized", x.total(0), recognized + 1 + (want == 0 ? 0 : 1));
        due(what + ": false ones", x.total(1), want == 2 ? 1 : 0);
        due(what + ": missed", x.total(2), missed + (want == 0 ? 1 : 0));
    }

    /** "otherwise it increases by 1, and steps 5 to 7 are left out" */
    private static void missLeavesOutTheRest() {
        for (int hidden = 0; hidden <= 1; hidden++) {
            PrintRegister x = full();
            x.run(5);
            x.adjust(1, 0, 80);
            x.adjust(1, 2, 40);
            x.speed(100);
            x.run(1);
            x.hide(1, hidden);
            x.run(1);
            int isSeen = 1 - hidden;
            due("feed", x.state(1, 3), 20 * isSeen);
            due("expected error", x.state(1, 8), 80 * isSeen);
            due("expected skew", x.state(1, 9), 40 * isSeen);
            due("sum", x.state(1, 4), 80 * isSeen);
            due("phase", x.state(1, 0), 80 * hidden);
            due("skew setting", x.state(1, 1), -40 * isSeen);
            due("wait", x.state(1, 5), isSeen);
            due("misses", x.state(1, 6), hidden);
            for (int what = 3; what < 6; what++) due("total(" + what + ")", x.total(what), isSeen);
            due("the error is kept", x.errors(1, 1, 0), 80);
        }
    }

    private static void missesAreCounted() {
        PrintRegister x = idle();
        x.run(3);
        x.hide(1, 50);
        for (int i = 1; i <= 50; i++) {
            x.run(1);
            due("misses", x.state(1, 6), i);
        }
        x.hide(1, 50);
        x.run(49);
        due("there is no limit", x.state(1, 6), 99);
        x.falseMark(1, 3000, 1);
        x.run(1);
        due("in a window of 8000", x.seen(1, 4), 2);
        due("misses", x.state(1, 6), 0);
        x.hide(1, 1);
        x.run(1);
        due("misses again", x.state(1, 6), 1);
        due("all of them", x.total(2), 100);
        x.restart(1);
        due("misses behind restart", x.state(1, 6), 0);
        due("all of them stay", x.total(2), 100);
    }

    /** Step 5: "at least 10", "LEARN is greater than 0", "divided in this order", "limited by 500" */
    private static void learningRows() {
        for (int sign = -1; sign <= 1; sign += 2) {
            dueFeed(10, 256, 7 * sign, 70 * sign, 1);
            dueFeed(-10, 256, 7 * sign, -70 * sign, 1);
            dueFeed(9, 256, 7 * sign, 0, 0);
            dueFeed(-9, 256, 7 * sign, 0, 0);
            dueFeed(1, 256, 7 * sign, 0, 0);
            dueFeed(0, 256, 7 * sign, 0, 0);
            dueFeed(11, 256, 7 * sign, 63 * sign, 1);
            dueFeed(10, 0, 7 * sign, 0, 0);
            dueFeed(1000, 0, 7 * sign, 0, 0);
            dueFeed(10, 1, 7 * sign, 0, 1);
            dueFeed(10, 1, 25 * sign, 0, 1);
            dueFeed(10, 1, 26 * sign, sign, 1);
            dueFeed(30, 256, 5 * sign, 16 * sign, 1);
            dueFeed(-30, 256, 5 * sign, -16 * sign, 1);
            dueFeed(30, 128, 5 * sign, 8 * sign, 1);
            dueFeed(30, 200, 5 * sign, 12 * sign, 1);
            dueFeed(-30, 200, 5 * sign, -12 * sign, 1);
            dueFeed(1000, 256, 9 * sign, 0, 1);
            dueFeed(1000, 256, 10 * sign, sign, 1);
            dueFeed(-1000, 256, 10 * sign, -sign, 1);
            dueFeed(100, 256, 499 * sign, 499 * sign, 1);
            dueFeed(100, 256, 500 * sign, 500 * sign, 1);
            dueFeed(100, 256, 501 * sign, 500 * sign, 1);
            dueFeed(-100, 256, 500 * sign, -500 * sign, 1);
            dueFeed(-100, 256, 501 * sign, -500 * sign, 1);
            dueFeed(10, 256, 2000 * sign, 500 * sign, 1);
            dueFeed(10, 255, 50 * sign, 498 * sign, 1);
        }
        dueFeed(10, 256, 0, 0, 1);
        dueFeed(-1000, 256, 0, 0, 1);
    }

    /** The feed behind a change of speed by d, if m is seen and 0 was expected. */
    private static void dueFeed(int d, int learn, int m, int feed, int learned) {
        PrintRegister x = idle();
        x.set(1, LEARN, learn);
        x.speed(d < 0 ? 1000 : 0);
        x.run(5);
        due("nothing was learned from what was not seen", x.total(5), 0);
        x.adjust(1, 0, m);
        x.speed(d < 0 ? 1000 + d : d);
        x.run(1);
        due("not yet", x.total(5), 0);
        x.run(1);
        String what = "a change of " + d + " with LEARN " + learn + ", at " + m;
        due(what, x.state(1, 3), feed);
        due(what + ": learned", x.total(5), learned);
        x.run(5);
        due(what + ": once", x.total(5), learned);
        due(what + ": no more", x.state(1, 3), feed);
        due(what + ": restart answers the feed that it had", x.restart(1), feed);
        due(what + ": none then", x.state(1, 3), 0);
    }

    /** "printed by this unit in a repeat with a change d": SENSOR repeats ago, however long the way is. */
    private static void whichChangeIsLearnedFrom() {
        for (int start : new int[] {40, 118, 127, 128, 129, 246, 255, 256, 257}) {
            for (int sensor = 1; sensor <= 10; sensor++) {
                PrintRegister x = new PrintRegister();
                x.setUp(2);
                x.set(1, SENSOR, sensor);
                x.set(1, DISTANCE, sensor % 2 == 0 ? 1 : 20);
                x.run(start);
                x.speed(10);
                x.run(1);
                x.speed(19);
                x.run(1);
                if (sensor > 2) x.run(sensor - 2);
                due("a repeat too early", sensor > 1 ? x.total(5) : 0, 0);
                if (sensor > 1) x.run(1);
                due("in time", x.total(5), 1);
                x.run(30);
                due("once", x.total(5), 1);
            }
        }
    }

    /** "(m - expected error)", and a false mark teaches as a true one does. */
    private static void learningFromWhatWasNotExpected() {
        PrintRegister x = idle();
        x.set(1, LEARN, 256);
        x.adjust(1, 0, 40);
        x.run(9);
        due("expected error", x.state(1, 8), 40);
        x.adjust(1, 0, 47);
        x.speed(100);
        x.run(2);
        due("47 - 40", x.state(1, 3), 7);
        due("expected error", x.state(1, 8), 47);
        x.speed(200);
        x.run(1);
        x.hide(1, 1);
        x.falseMark(1, 37, 1);
        x.run(1);
        due("a false mark at 37", x.seen(1, 4), 2);
        due("7 + 37 - 47", x.state(1, 3), -3);
        x.speed(300);
        x.run(1);
        x.hide(1, 1);
        x.run(1);
        due("a miss teaches nothing", x.state(1, 3), -3);
        due("nor later", x.total(5), 2);
    }

    /** Step 7: "the absolute value of m is greater than BAND" */
    private static void bandOfPhases() {
        for (int band : new int[] {0, 1, 5, 499, 500}) {
            for (int m : new int[] {band, band + 1, -band, -band - 1}) {
                PrintRegister x = full();
                x.set(1, BAND, band);
                x.adjust(1, 0, m);
                x.run(3);
                int isOff = Math.abs(m) > band ? 1 : 0;
                String what = m + " with BAND " + band;
                due(what + ": recognized", x.seen(1, 5), m);
                due(what + ": phase", x.state(1, 0), isOff > 0 ? 0 : m);
                due(what + ": sum", x.state(1, 4), isOff > 0 ? m : 0);
                due(what + ": wait", x.state(1, 5), isOff);
                due(what + ": corrections of phases", x.total(3), isOff);
                due(what + ": of skews", x.total(4), 0);
                x.run(1);
                due(what + ": expected", x.state(1, 8), isOff > 0 ? 0 : m);
            }
        }
    }

    private static void bandOfSkews() {
        for (int band : new int[] {0, 1, 5, 499, 500}) {
            for (int skew : new int[] {band, band + 1, -band, -band - 1}) {
                PrintRegister x = full();
                x.set(1, BAND, band);
                x.adjust(1, 2, skew);
                x.run(3);
                int isOff = Math.abs(skew) > band ? 1 : 0;
                String what = "a skew of " + skew + " with BAND " + band;
                due(what + ": measured", x.seen(1, 6), skew);
                due(what + ": skew setting", x.state(1, 1), isOff > 0 ? -skew : 0);
                due(what + ": tilt", x.state(1, 2), skew);
                due(what + ": sum", x.state(1, 4), 0);
                due(what + ": wait", x.state(1, 5), isOff);
                due(what + ": corrections of phases", x.total(3), 0);
                due(what + ": of skews", x.total(4), isOff);
                x.run(1);
                due(what + ": expected", x.state(1, 9), isOff > 0 ? 0 : skew);
            }
        }
    }

    /** Makes repeats until something was corrected, at most six. */
    private static void runToCorrection(PrintRegister x) {
        for (int i = 0; i < 6 && x.total(3) + x.total(4) == 0; i++) x.run(1);
    }

    /** "limited by STEP" */
    private static void stepOfPhases() {
        for (int step : new int[] {1, 2, 300, 1999, 2000}) {
            for (int m : new int[] {step, step + 1, -step, -step - 1, 3999, -3999}) {
                if (Math.abs(m) <= 1 && step > 1) continue;
                PrintRegister x = full();
                x.set(1, MISSES, 1);
                x.set(1, STEP, step);
                x.adjust(1, 0, m);
                runToCorrection(x);
                int left = Math.abs(m) > step ? m - (m > 0 ? step : -step) : 0;
                due(m + " with STEP " + step, x.state(1, 0), left);
                due("the sum is of m", x.state(1, 4), m);
                x.run(1);
                due("what is expected then", x.state(1, 8), left);
            }
        }
    }

    private static void stepOfSkews() {
        for (int step : new int[] {1, 2, 300, 1999, 2000}) {
            for (int skew : new int[] {step, step + 1, -step, -step - 1, 2999, -2999}) {
                PrintRegister x = full();
                x.set(1, STEP, step);
                int tilt = skew > 0 ? 1 : -1;
                x.adjust(1, 2, tilt);
                x.adjust(1, 1, skew - tilt);
                runToCorrection(x);
                int corrected = Math.abs(skew) > step ? (skew > 0 ? -step : step) : -skew;
                due("a skew of " + skew + " with STEP " + step, x.state(1, 1), skew - tilt + corrected);
                x.run(1);
                due("what is expected then", x.state(1, 9), skew + corrected);
            }
        }
    }

    /** "the correction is -(GAIN * m + SUM_GAIN * sum) / 256"; "-(GAIN * skew) / 256"; truncated toward 0 */
    private static void divisionsOfCorrections() {
        int[][] rows = {{128, 0, 7, 3}, {1, 0, 255, 0}, {1, 0, 256, 1}, {1, 0, 511, 1}, {1, 0, 512, 2}, {100, 100, 2, 1},
            {0, 256, 9, 9}, {256, 256, 9, 18}, {0, 0, 9, 0}, {255, 1, 1, 1}, {254, 1, 1, 0}, {255, 0, 1, 0}, {0, 255, 2, 1},
            {256, 0, 1999, 1999}, {255, 0, 2000, 1992}, {200, 56, 1001, 1001}, {3, 250, 301, 297}};
        for (int[] row : rows) {
            for (int sign = -1; sign <= 1; sign += 2) {
                PrintRegister x = full();
                x.set(1, GAIN, row[0]);
                x.set(1, SUM_GAIN, row[1]);
                int m = row[2] * sign;
                x.adjust(1, 0, m);
                x.run(3);
                String what = m + " with gains of " + row[0] + " and " + row[1];
                due(what, x.state(1, 0), m - row[3] * sign);
                due(what + ": counted", x.total(3), 1);
                due(what + ": wait", x.state(1, 5), 1);
                x = full();
                x.set(1, GAIN, row[0]);
                x.set(1, SUM_GAIN, row[1]);
                x.adjust(1, 2, m);
                x.run(3);
                due("a skew of " + what, x.state(1, 1), -(row[0] * row[2] / 256) * sign);
                due("a skew of " + what + ": counted", x.total(4), 1);
                due("a skew of " + what + ": wait", x.state(1, 5), 1);
            }
        }
        // The second correction has the sum of both: m is 100, then 100 - 25 - 6 = 69.
        PrintRegister x = full();
        x.set(1, GAIN, 64);
        x.set(1, SUM_GAIN, 16);
        x.adjust(1, 0, 100);
        x.run(3);
        due("(6400 + 1600) / 256 is 31", x.state(1, 0), 69);
        x.run(2);
        due("the sum of both", x.state(1, 4), 169);
        due("(64 * 69 + 16 * 169) / 256 is 27", x.state(1, 0), 42);
    }

    /** "the phase is limited by 5000", and only what the limit allowed is expected */
    private static void limitOfThePhase() {
        int[][] rows = {{4998, -1, 4999}, {4999, -1, 5000}, {4999, -2, 5000}, {5000, -7, 5000}, {5000, 7, 4993}, {0, 7, -7},
            {3000, -1999, 4999}, {3000, -2000, 5000}, {3001, -2000, 5000}};
        for (int[] row : rows) {
            for (int sign = -1; sign <= 1; sign += 2) {
                int phase = row[0] * sign;
                int m = row[1] * sign;
                PrintRegister x = full();
                x.adjust(1, 0, phase);
                x.run(2);
                x.hide(1, 50);
                x.falseMark(1, m, 1);
                x.run(1);
                String what = "the phase " + phase + " at " + m;
                due(what, x.state(1, 0), row[2] * sign);
                due(what + ": expected as measured", x.state(1, 8), m);
                due(what + ": wait", x.state(1, 5), 1);
                x.run(1);
                due(what + ": expected behind the wait", x.state(1, 8), m + row[2] * sign - phase);
                due(what + ": counted", x.total(3), 1);
            }
        }
    }

    /** "the skew setting, which is limited by 3000" */
    private static void limitOfTheSkewSetting() {
        int[][] rows = {{2998, -1, 2999}, {2999, -1, 3000}, {2999, -2, 3000}, {3000, -7, 3000}, {3000, 7, 2993}, {0, 7, -7},
            {1000, -1999, 2999}, {1000, -2000, 3000}, {1001, -2000, 3000}};
        for (int[] row : rows) {
            for (int sign = -1; sign <= 1; sign += 2) {
                int setting = row[0] * sign;
                int skew = row[1] * sign;
                PrintRegister x = full();
                x.adjust(1, 2, skew);
                x.run(2);
                x.adjust(1, 1, setting);
                x.run(1);
                String what = "the skew setting " + setting + " at " + skew;
                due(what, x.state(1, 1), row[2] * sign);
                due(what + ": expected as measured", x.state(1, 9), skew);
                x.hide(1, 1);
                x.run(1);
                due(what + ": expected behind the wait", x.state(1, 9), skew + row[2] * sign - setting);
                due(what + ": counted", x.total(4), 1);
            }
        }
    }

    /** "the sum increases by m and is limited by 20000" */
    private static void limitOfTheSum() {
        for (int size : new int[] {2000, 1999, 1818, 1}) {
            for (int sign = -1; sign <= 1; sign += 2) {
                PrintRegister x = idle();
                x.set(1, BAND, 0);
                x.set(1, MISSES, 1);
                x.adjust(1, 0, size * sign);
                x.run(2);
                for (int i = 1; i <= 13; i++) {
                    x.run(1);
                    due("the sum of " + i + " times " + size, x.state(1, 4), Math.min(size * i, 20000) * sign);
                    x.run(1);
                    due("not while waiting", x.state(1, 4), Math.min(size * i, 20000) * sign);
                }
                int sum = x.state(1, 4);
                x.adjust(1, 0, -sign);
                x.run(3);
                due("it comes back", x.state(1, 4), Math.min(Math.abs(sum) + (Math.abs(sum) < 20000 ? size : 0), 20000) * sign - sign);
            }
        }
        PrintRegister x = idle();
        x.set(1, BAND, 0);
        x.adjust(1, 0, 1999);
        x.run(2 + 20);
        due("ten times", x.state(1, 4), 19990);
        x.set(1, SUM_GAIN, 1);
        x.run(1);
        due("eleven times", x.state(1, 4), 20000);
        due("corrected by what it is limited to: 20000 / 256", x.state(1, 0), 1999 - 78);
    }

    /** "the wait becomes SENSOR + 1": the next correction comes so many repeats later. */
    private static void waitOfEachSensor() {
        for (int sensor = 1; sensor <= 10; sensor++) {
            for (int kind = 0; kind <= 2; kind += 2) {
                PrintRegister x = new PrintRegister();
                x.setUp(2);
                x.set(1, DISTANCE, 1);
                x.set(1, SENSOR, sensor);
                x.set(1, GAIN, 0);
                x.set(1, SUM_GAIN, 0);
                x.adjust(1, kind, 50);
                x.run(sensor + 1);
                due("no wait", x.state(1, 5), 0);
                for (int i = 1; i <= 3; i++) {
                    for (int left = sensor; left >= 0; left--) {
                        x.run(1);
                        due("wait", x.state(1, 5), left);
                        due("corrections", x.total(kind == 0 ? 3 : 4), i);
                    }
                }
            }
        }
    }

    /** "if it becomes 0 by this, what the latest correction has added .. is added to the expected error" */
    private static void expectedBehindTheWait() {
        for (int sensor = 1; sensor <= 10; sensor++) {
            PrintRegister x = full();
            x.set(1, SENSOR, sensor);
            x.adjust(1, 0, 100);
            x.adjust(1, 2, 40);
            x.run(sensor + 2);
            for (int left = sensor; left >= 0; left--) {
                due("wait", x.state(1, 5), left);
                due("expected error", x.state(1, 8), left > 0 ? 100 : 0);
                due("expected skew", x.state(1, 9), left > 0 ? 40 : 0);
                x.run(1);
            }
            due("the next error is as expected", x.seen(1, 2), 0);
            due("the next skew is as expected", x.seen(1, 3), 0);
            due("no other correction", x.total(3) + x.total(4), 2);
        }
    }

    /** "(.. 0 if it was of the skew alone)", "(0 if it was of the phase alone)" */
    private static void phaseAndSkewAlone() {
        PrintRegister x = full();
        x.adjust(1, 0, 100);
        x.adjust(1, 2, 30);
        x.run(8);
        due("both were corrected", x.total(3) * 10 + x.total(4), 11);
        due("phase", x.state(1, 0), 0);
        due("skew setting", x.state(1, 1), -30);
        x.adjust(1, 2, 80);
        x.run(2);
        due("a skew alone", x.total(3) * 10 + x.total(4), 12);
        due("wait", x.state(1, 5), 1);
        due("expected skew", x.state(1, 9), 50);
        x.run(1);
        due("expected error: not 100 less", x.state(1, 8), 0);
        due("expected skew: 50 less", x.state(1, 9), 0);
        x.run(5);
        x.adjust(1, 0, 60);
        x.run(2);
        due("a phase alone", x.total(3) * 10 + x.total(4), 22);
        due("wait", x.state(1, 5), 1);
        due("expected error", x.state(1, 8), 60);
        x.run(1);
        due("expected error: 60 less", x.state(1, 8), 0);
        due("expected skew: not 50 less", x.state(1, 9), 0);
        due("the wait is set once", x.state(1, 5), 0);
        x.run(5);
        x.adjust(1, 0, -9);
        x.adjust(1, 2, 73);
        x.run(2);
        due("both again", x.total(3) * 10 + x.total(4), 33);
        due("phase", x.state(1, 0), 0);
        due("skew setting", x.state(1, 1), -73);
        x.run(1);
        due("expected error", x.state(1, 8), 0);
        due("expected skew", x.state(1, 9), 0);
    }

    /** The wait goes by without marks, too; and a restart ends it, and what it would have added. */
    private static void waitThatIsHidden() {
        PrintRegister x = full();
        x.set(1, SENSOR, 3);
        x.adjust(1, 0, 100);
        x.run(5);
        due("wait", x.state(1, 5), 3);
        x.hide(1, 50);
        x.save(0);
        x.run(2);
        due("expected error", x.state(1, 8), 100);
        x.run(1);
        due("expected error", x.state(1, 8), 0);
        due("misses", x.state(1, 6), 3);
        x.run(9);
        due("added once", x.state(1, 8), 0);
        x.restore(0);
        x.restart(1);
        for (int i = 0; i < 6; i++) {
            x.run(1);
            due("wait", x.state(1, 5), 0);
            due("nothing is added", x.state(1, 8), 0);
        }
        x.restore(0);
        x.adjust(1, 0, 777);
        x.run(3);
        due("what adjust() changes is not added", x.state(1, 8), 0);
    }

    /** "Steps 4 and on take place also for a unit whose gains are 0." */
    private static void gainsOf0() {
        PrintRegister x = idle();
        x.set(1, BAND, 0);
        x.set(1, LEARN, 256);
        x.adjust(1, 0, 60);
        x.adjust(1, 2, 8);
        x.run(2);
        x.speed(10);
        x.run(1);
        due("recognized", x.seen(1, 4), 1);
        due("expected error", x.state(1, 8), 60);
        due("expected skew", x.state(1, 9), 8);
        due("sum", x.state(1, 4), 60);
        due("wait", x.state(1, 5), 1);
        due("phase", x.state(1, 0), 60);
        due("skew setting", x.state(1, 1), 0);
        due("corrections of phases", x.total(3), 1);
        due("corrections of skews", x.total(4), 1);
        x.adjust(1, 0, 61);
        x.run(1);
        due("learned, though by 0", x.total(5), 1);
        x.hide(1, 1);
        x.run(1);
        due("misses", x.state(1, 6), 1);
        due("expected error", x.state(1, 8), 60);
    }

    /** "each for all units together" */
    private static void totalsOfAllUnits() {
        PrintRegister x = new PrintRegister();
        x.setUp(5);
        for (int u = 1; u < 5; u++) {
            x.set(u, DISTANCE, 1);
            x.set(u, SENSOR, 1);
        }
        x.run(20);
        int recognized = x.total(0);
        due("18 + 17 + 16 + 15", recognized, 66);
        for (int u = 1; u < 5; u++) x.adjust(u, 0, 10 * u - 5);
        for (int u = 1; u < 5; u++) x.adjust(u, 2, u == 2 ? 5 : 6);
        x.hide(4, 50);
        x.hide(3, 50);
        x.falseMark(3, 7, 50);
        x.speed(10);
        x.run(2);
        due("1, 2 and the false one of 3, and all but 4 before", x.total(0), recognized + 6);
        due("false ones: unit 3 twice", x.total(1), 2);
        due("misses: unit 4 twice", x.total(2), 2);
        due("corrections of phases: unit 2, and 7 of unit 3", x.total(3), 2);
        due("of skews: unit 1", x.total(4), 1);
        due("changes of feeds: all but unit 4", x.total(5), 3);
        x.save(0);
        x.run(9);
        x.restore(0);
        due("totals are saved", x.total(0), recognized + 6);
        x.setUp(5);
        for (int what = 0; what < 6; what++) due("totals since setUp()", x.total(what), 0);
    }
}
