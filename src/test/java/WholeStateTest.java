import java.util.List;

/** What setUp(), save(), restore() and the copies bring and leave: all of it, and nothing of what was there before. */
public final class WholeStateTest {
    public static void main(String[] args) {
        setUpFromEachWorld();
        setUpWithAPadAndSlots();
        restoreIntoEachWorld();
        restoreTwoSlots();
        restoreIsNoSlotOfItsOwn();
        whatWasKeptBySave();
        changeOnTheWay();
        correctionOnTheWay();
        copiesGoAsRunGoes();
        copiesDoNotStandInEachOthersWay();
        errorsBehindAGreatOne();
        expectedSkewOfAFalseMark();
        restartIsOfOneUnit();
        textsBehindEachOther();
        Check.end("WholeStateTest");
    }

    private static void due(String what, long got, long want) {
        Check.due(what, got, want);
    }

    /** The settings and states that an object has at first, and how it goes on from there. */
    private static PrintRegister begun(int units) {
        PrintRegister x = new PrintRegister();
        x.setUp(units);
        return x;
    }

    /** "everything is as at first, at the time 0" */
    private static void setUpFromEachWorld() {
        for (World w : World.ALL) {
            for (int units = 2; units <= 5; units++) {
                PrintRegister x = w.made();
                int time = x.count(0);
                due("setUp answers the time that it was", x.setUp(units), time);
                // The last world has used most of its 512 calls to come there.
                if (w == World.LAST) continue;
                World.dueSame("setUp(" + units + ") in the world " + w.name, World.askedOfUnits(x),
                    World.askedOfUnits(begun(units)));
                // And with all that can disturb them: what was left behind would be seen now.
                x = w.made();
                x.setUp(units);
                World.dueSame("a disturbed one in the world " + w.name, World.askedOfUnits(disturbed(x)),
                    World.askedOfUnits(disturbed(begun(units))));
            }
        }
    }

    private static PrintRegister disturbed(PrintRegister x) {
        for (int u = 0; u < x.count(1); u++) {
            x.set(u, 0, 1);
            x.set(u, 1, 1);
            x.adjust(u, 0, 20 * u);
            x.adjust(u, 2, 7 * u);
        }
        x.speed(30);
        x.run(3);
        x.splice(40, 9);
        return x;
    }

    /** "(only the pad and the slots stay)" */
    private static void setUpWithAPadAndSlots() {
        for (int units = 2; units <= 5; units++) {
            PrintRegister x = World.BUSY.made();
            int length = x.count(4);
            x.setUp(units);
            due("the pad stays", x.count(4), length);
            due("its fault", x.fault(), Check.NONE);
            due("it is carried out: 5 repeats, if there is a unit 4", x.carryOut(), units == 5 ? 5 : Check.NO_SUCH);
            due("the speed then", x.count(2), units == 5 ? 77 : 0);
            due("the slot 1 stays empty", x.restore(1), Check.NOT_POSSIBLE);
            due("the slot 0 stays", x.restore(0), 34);
            due("with its units", x.count(1), 5);
        }
        PrintRegister x = new PrintRegister();
        x.save(0);
        x.setUp(2);
        x.save(1);
        x.setUp(5);
        due("the slot 0 stays", x.restore(0), 0);
        due("three units", x.count(1), 3);
        due("the slot 1 stays", x.restore(1), 0);
        due("two units", x.count(1), 2);
    }

    /** "Saves everything except the pad": it goes on as if it had not been left. */
    private static void restoreIntoEachWorld() {
        for (World saved : World.ALL) {
            List<Integer> want = World.askedOfUnits(saved.made());
            for (int slot = 0; slot < 2; slot++) {
                for (int units = 2; units <= 5; units++) {
                    PrintRegister x = saved.made();
                    int time = x.count(0);
                    due("save answers the time", x.save(slot), time);
                    x.setUp(units);
                    if (units > 2) disturbed(x);
                    if (units > 3) x.run(20);
                    due("restore answers the time", x.restore(slot), time);
                    World.dueSame("restore(" + slot + ") of the world " + saved.name, World.askedOfUnits(x), want);
                }
            }
        }
    }

    private static void restoreTwoSlots() {
        PrintRegister x = World.BUSY.made();
        x.save(0);
        int time = x.count(0);
        x.run(1);
        x.save(1);
        x.setUp(2);
        x.run(1);
        PrintRegister y = World.BUSY.made();
        y.run(1);
        List<Integer> later = World.askedOfUnits(y);
        due("the later one", x.restore(1), time + 1);
        due("the earlier one", x.restore(0), time);
        due("the later one again", x.restore(1), time + 1);
        World.dueSame("the later one", World.askedOfUnits(x), later);
    }

    /** "what was saved last in a slot, which keeps it" */
    private static void restoreIsNoSlotOfItsOwn() {
        PrintRegister x = World.BUSY.made();
        List<Integer> want = World.askedOfUnits(World.BUSY.made());
        x.save(1);
        for (int i = 0; i < 3; i++) {
            x.restore(1);
            x.run(30);
            x.adjust(1, 0, 4000);
            x.set(2, 4, 9);
            x.splice(9, 9);
            x.disturb(3, 9, 9);
            x.speed(900);
            x.run(2);
        }
        x.restore(1);
        World.dueSame("restored three times, and changed in between", World.askedOfUnits(x), want);
        x = new PrintRegister();
        x.run(3);
        x.save(0);
        x.run(4);
        x.save(0);
        x.run(5);
        due("what was saved last", x.restore(0), 7);
        due("it is kept", x.restore(0), 7);
    }

    /** Each number of the state, saved by itself. */
    private static void whatWasKeptBySave() {
        PrintRegister x = World.BUSY.made();
        int[][] states = new int[5][14];
        int[][] sights = new int[5][7];
        for (int u = 0; u < 5; u++) {
            for (int what = 0; what < 14; what++) states[u][what] = x.state(u, what);
            for (int what = 0; what < 7; what++) sights[u][what] = x.seen(u, what);
        }
        x.save(1);
        x.run(40);
        x.speed(1);
        for (int u = 0; u < 5; u++) {
            x.restart(u);
            for (int what = 0; what < 3; what++) x.adjust(u, what, -99);
        }
        due("restore", x.restore(1), 43);
        for (int u = 0; u < 5; u++) {
            for (int what = 0; what < 14; what++) due("state(" + u + ", " + what + ")", x.state(u, what), states[u][what]);
            for (int what = 0; what < 7; what++) due("seen(" + u + ", " + what + ")", x.seen(u, what), sights[u][what]);
        }
        due("speed", x.count(2), 150);
    }

    /** A change of speed whose piece no sensor has seen when it is saved. */
    private static void changeOnTheWay() {
        for (int sensor = 1; sensor <= 10; sensor++) {
            PrintRegister x = new PrintRegister();
            x.setUp(2);
            x.set(1, PrintRegister.SENSOR, sensor);
            x.set(1, PrintRegister.LEARN, 256);
            x.run(40);
            x.adjust(1, 0, 60);
            x.speed(100);
            x.run(1);
            x.save(0);
            x.setUp(2);
            x.run(300);
            due("restore", x.restore(0), 41);
            if (sensor > 1) x.run(sensor - 1);
            due("not learned yet", x.total(5), 0);
            x.run(1);
            due("learned", x.state(1, 3), 60);
            // And the other way round: what happened behind save() teaches nothing.
            x.setUp(2);
            x.set(1, PrintRegister.SENSOR, sensor);
            x.run(40);
            x.save(0);
            x.speed(1000);
            x.run(1);
            x.speed(0);
            x.run(1);
            x.restore(0);
            x.run(20);
            due("nothing was learned", x.total(5), 0);
        }
    }

    /** What the latest correction has added is saved during the wait, and expected behind it. */
    private static void correctionOnTheWay() {
        for (int what = 0; what <= 2; what += 2) {
            PrintRegister x = new PrintRegister();
            x.setUp(2);
            x.set(1, PrintRegister.GAIN, 256);
            x.set(1, PrintRegister.SUM_GAIN, 0);
            x.adjust(1, what, 70);
            x.run(9);
            due("wait", x.state(1, 5), 3);
            x.save(0);
            for (int other = 0; other <= 2; other += 2) {
                x.setUp(2);
                x.adjust(1, other, -30);
                x.run(9);
                x.restore(0);
                x.hide(1, 50);
                x.run(2);
                due("expected before the end of the wait", x.state(1, what == 0 ? 8 : 9), 70);
                x.run(1);
                due("expected behind it", x.state(1, what == 0 ? 8 : 9), 0);
                due("the other one", x.state(1, what == 0 ? 9 : 8), 0);
            }
        }
    }

    /** forecast() and attempt() against the same repeats, really made. */
    private static void copiesGoAsRunGoes() {
        for (int u = 1; u < 5; u++) {
            for (int i = 2; i < 11; i++) {
                PrintRegister x = World.BUSY.made();
                int value = x.get(u, i);
                int n = 7 * i + u;
                int attempt = x.attempt(u, i, value, n);
                due("attempt() of what it is", attempt, sumOfErrors(x, u, n));
                x = World.BUSY.made();
                int another = (value + 5) / 2;
                attempt = x.attempt(u, i, another, n);
                x.set(u, i, another);
                due("attempt() of another value", attempt, sumOfErrors(x, u, n));
            }
            for (int band : new int[] {0, 3, 12, 60, 400, 1000}) {
                PrintRegister x = World.BUSY.made();
                int forecast = x.forecast(u, band, 90);
                due("forecast(" + u + ", " + band + ", 90)", forecast, repeatsToComeBack(x, u, band, 90));
            }
        }
        PrintRegister x = World.BUSY.made();
        int best = x.bestGain(2, 10, 30, 8, 60);
        int least = Integer.MAX_VALUE;
        int bestOfAll = 0;
        for (int gain = 10; gain <= 220; gain += 30) {
            x = World.BUSY.made();
            x.set(2, PrintRegister.GAIN, gain);
            int sum = sumOfErrors(x, 2, 60);
            if (sum < least) bestOfAll = gain;
            least = Math.min(sum, least);
        }
        due("bestGain()", best, bestOfAll);
    }

    private static int sumOfErrors(PrintRegister x, int unit, int n) {
        int sum = 0;
        for (int i = 0; i < n; i++) {
            x.run(1);
            int error = x.seen(unit, 2);
            if (error != Check.NONE) sum += Math.abs(error);
        }
        return sum;
    }

    private static int repeatsToComeBack(PrintRegister x, int unit, int band, int most) {
        StringBuilder good = new StringBuilder();
        for (int i = 0; i < most; i++) {
            x.run(1);
            int error = x.seen(unit, 2);
            good.append(error != Check.NONE && Math.abs(error) <= band ? 'x' : '.');
        }
        int at = good.indexOf("xxxxx");
        return at < 0 ? Check.NONE : at;
    }

    /** A copy begins with what is now, not with what another copy has left. */
    private static void copiesDoNotStandInEachOthersWay() {
        PrintRegister x = World.BUSY.made();
        int forecast = x.forecast(2, 20, 200);
        int attempt = x.attempt(2, 7, 40, 100);
        int best = x.bestGain(3, 0, 36, 8, 100);
        x.attempt(2, 10, 500, 300);
        x.forecast(4, 0, 300);
        due("forecast again", x.forecast(2, 20, 200), forecast);
        x.attempt(2, 2, 5, 300);
        due("attempt again", x.attempt(2, 7, 40, 100), attempt);
        x.attempt(3, 4, 256, 300);
        due("bestGain again", x.bestGain(3, 0, 36, 8, 100), best);
        World.BUSY.dueUnchanged("copies", afterCopies());
        // A copy of fewer units behind one of more, and of more behind fewer.
        x = World.BUSY.made();
        x.forecast(4, 0, 300);
        x.setUp(2);
        due("two units", x.attempt(1, 4, 0, 300), 0);
        due("no unit 2 in the copy", x.attempt(2, 4, 0, 300), Check.NO_SUCH);
        x.setUp(5);
        due("five units", x.forecast(4, 0, 300), 23);
    }

    private static PrintRegister afterCopies() {
        PrintRegister x = World.BUSY.made();
        for (int u = 1; u < 5; u++) {
            x.forecast(u, 1000, 300);
            x.attempt(u, 10, -500, 300);
            x.bestGain(u, 100, 1, 8, 100);
        }
        return x;
    }

    /** "The latest 60 true errors": what is older has no part in any of the numbers. */
    private static void errorsBehindAGreatOne() {
        PrintRegister x = new PrintRegister();
        x.setUp(2);
        x.set(1, PrintRegister.GAIN, 0);
        x.set(1, PrintRegister.SUM_GAIN, 0);
        x.run(8);
        x.disturb(1, 3000, 1);
        x.run(4);
        due("the great one is the fourth", x.errors(1, 60, 0), 3000);
        due("it is the latest", x.errors(1, 1, 0), 3000);
        for (int newer = 1; newer <= 70; newer++) {
            x.run(1);
            int isKept = newer < 60 ? 1 : 0;
            due("greatest, with " + newer + " newer ones", x.errors(1, 60, 0), 3000 * isKept);
            due("sum", x.errors(1, 60, 1), 3000 * isKept);
            due("greater than BAND", x.errors(1, 60, 3), isKept);
            if (newer <= 60) due("not among the newer ones", x.errors(1, newer, 0), 0);
        }
        x.setUp(2);
        x.disturb(1, 2000, 50);
        x.run(60);
        x.setUp(2);
        x.run(10);
        due("none of those before setUp()", x.errors(1, 60, 0), 0);
        due("how many there are", x.errors(1, 60, 2), 2);
    }

    /** "and the expected skew for the false one", which the end of the wait has changed */
    private static void expectedSkewOfAFalseMark() {
        PrintRegister x = new PrintRegister();
        x.setUp(2);
        x.set(1, PrintRegister.GAIN, 256);
        x.adjust(1, 2, 40);
        x.run(9);
        due("measured", x.seen(1, 6), 40);
        due("corrected", x.state(1, 1), -40);
        x.hide(1, 50);
        x.run(3);
        due("expected", x.state(1, 9), 0);
        x.falseMark(1, 3, 1);
        x.run(1);
        due("the false one", x.seen(1, 4), 2);
        due("the skew that is expected now", x.seen(1, 6), 0);
        due("it stays expected", x.state(1, 9), 0);
        due("nothing to correct", x.total(4), 1);
    }

    /** "Makes sum, wait, misses, ready time, feed, expected error and expected skew of a unit 0." */
    private static void restartIsOfOneUnit() {
        for (int unit = 0; unit < 5; unit++) {
            PrintRegister x = World.BUSY.made();
            PrintRegister y = World.BUSY.made();
            due("restart answers the feed", x.restart(unit), y.state(unit, 3));
            for (int u = 0; u < 5; u++) {
                for (int what = 0; what < 14; what++) {
                    boolean isCleared = u == unit && what >= 3 && what <= 9;
                    due("state(" + u + ", " + what + ")", x.state(u, what), isCleared ? 0 : y.state(u, what));
                }
                for (int i = 0; i < 11; i++) due("get(" + u + ", " + i + ")", x.get(u, i), y.get(u, i));
                for (int what = 0; what < 7; what++) due("seen(" + u + ", " + what + ")", x.seen(u, what), y.seen(u, what));
            }
            for (int what = 0; what < 6; what++) due("total(" + what + ")", x.total(what), y.total(what));
            due("restart again", x.restart(unit), 0);
        }
    }

    /** What one text has said has no part in the next one. */
    private static void textsBehindEachOther() {
        PrintRegister x = new PrintRegister();
        Check.putText(x, "n99,d4:3000/50");
        due("no unit 4", x.carryOut(), Check.NO_SUCH);
        due("no fault", x.fault(), Check.NONE);
        x.wipe();
        Check.putText(x, "d2:-7/9,n2");
        due("unit 2", x.carryOut(), 2);
        due("left", x.state(2, 10), 7);
        Check.putText(x, "n5,n");
        due("too short", x.carryOut(), Check.BAD_TEXT);
        due("its fault", x.fault(), 4);
        Check.putText(x, "6");
        due("now it is not", x.fault(), Check.NONE);
        due("11 repeats", x.carryOut(), 11);
        due("time", x.count(0), 13);
        Check.putText(x, "v3");
        due("no repeats", x.carryOut(), 0);
        Check.putText(x, "n1,d3:1/1");
        due("no unit 3", x.carryOut(), Check.NO_SUCH);
        due("once more", x.carryOut(), Check.NO_SUCH);
        x.save(0);
        x.setUp(4);
        due("now there is one", x.carryOut(), 1);
        due("left", x.state(3, 10), 1);
        due("the units of the slot", x.restore(0), 13);
        Check.putText(x, "d3:1/1");
        due("no unit 3 again", x.carryOut(), Check.NO_SUCH);
    }
}
