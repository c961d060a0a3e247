import java.util.function.IntUnaryOperator;

/** Each argument of each method at both ends of its range, and what comes of it there. */
public final class RangesTest {
    private static final int MIN = Integer.MIN_VALUE;
    private static final int MAX = Integer.MAX_VALUE;
    private static final int[] LEAST = {1, 1, 5, 1, 0, 0, 0, 1, 0, 0, -500};
    private static final int[] GREATEST = {20, 10, 2000, 20, 256, 256, 500, 2000, 256, 30, 500};
    private static final int[] FIRST = {5, 3, 200, 4, 128, 16, 5, 300, 64, 8, 0};
    private static final int[] MOST_BY_HAND = {5000, 3000, 2000};

    public static void main(String[] args) {
        everyRange();
        everyRangeOfCopies();
        unitsOfSetUp();
        everyNumberOfUnits();
        settings();
        byHand();
        speedsAtTheEnds();
        disturbancesAtTheEnds();
        hidingAtTheEnds();
        falseMarksAtTheEnds();
        splicesAtTheEnds();
        repeatsAtTheEnds();
        errorsThatWereKept();
        forecastsAtTheEnds();
        forecastsOfABand();
        attemptsAtTheEnds();
        gainsAtTheEnds();
        lastGains();
        copiesBehindTheLastTime();
        slotsBesideEachOther();
        Check.end("RangesTest");
    }

    private static void due(String what, long got, long want) {
        Check.due(what, got, want);
    }

    /** Inside, the call answers no error; outside, BAD_VALUE. */
    private static void range(String what, int least, int greatest, IntUnaryOperator call) {
        int[] inside = {least, least + 1, (least + greatest) / 2, greatest - 1, greatest};
        for (int v : inside) {
            if (v < least || v > greatest) continue;
            int answer = call.applyAsInt(v);
            Check.dueTrue(what + " " + v + " is allowed, answered " + answer, answer > Check.NO_SUCH);
        }
        int[] outside = {MIN, least - 1, greatest + 1, MAX};
        for (int v : outside) due(what + " " + v, call.applyAsInt(v), Check.BAD_VALUE);
    }

    private static PrintRegister five() {
        PrintRegister x = new PrintRegister();
        x.setUp(5);
        return x;
    }

    private static void everyRange() {
        range("setUp", 2, 5, v -> new PrintRegister().setUp(v));
        for (int unit = 0; unit < 5; unit++) {
            int u = unit;
            for (int setting = 0; setting < 11; setting++) {
                int i = setting;
                range("set " + i, LEAST[i], GREATEST[i], v -> five().set(u, i, v));
            }
            for (int which = 0; which < 3; which++) {
                int i = which;
                range("adjust " + i, -MOST_BY_HAND[i], MOST_BY_HAND[i], v -> five().adjust(u, i, v));
            }
            range("a setting to get", 0, 10, v -> five().get(u, v));
            range("what to adjust", 0, 2, v -> five().adjust(u, v, 0));
            range("disturb's amount", -3000, 3000, v -> five().disturb(u, v, 50));
            range("disturb's duration", 1, 50, v -> five().disturb(u, 3000, v));
            range("hide", 0, 50, v -> five().hide(u, v));
            range("a false mark's offset", -3000, 3000, v -> five().falseMark(u, v, 50));
            range("a false mark's offset when it is ended", -3000, 3000, v -> five().falseMark(u, v, 0));
            range("a false mark's repeats", 0, 50, v -> five().falseMark(u, 3000, v));
            range("what of state", 0, 13, v -> five().state(u, v));
        }
        range("speed", 0, 1000, v -> new PrintRegister().speed(v));
        range("splice's amount", -3000, 3000, v -> new PrintRegister().splice(v, 1));
        range("splice's duration", 1, 50, v -> new PrintRegister().splice(-3000, v));
        range("run", 1, 300, v -> new PrintRegister().run(v));
        range("what of total", 0, 5, v -> new PrintRegister().total(v));
        range("what of count", 0, 4, v -> new PrintRegister().count(v));
        range("a slot to save in", 0, 1, v -> new PrintRegister().save(v));
        range("a slot to restore", 0, 1, v -> {
            PrintRegister x = new PrintRegister();
            x.save(0);
            x.save(1);
            return x.restore(v);
        });
        range("what of seen", 0, 6, v -> {
            PrintRegister x = new PrintRegister();
            x.run(9);
            return x.seen(1, v);
        });
    }

    private static void everyRangeOfCopies() {
        for (int unit = 1; unit < 5; unit++) {
            int u = unit;
            range("n of errors", 1, 60, v -> five().errors(u, v, 0));
            range("what of errors", 0, 3, v -> five().errors(u, 60, v));
            range("forecast's band", 0, 1000, v -> five().forecast(u, v, 300));
            range("forecast's most", 5, 300, v -> {
                PrintRegister x = five();
                x.run(100);
                return x.forecast(u, 0, v);
            });
            for (int setting = 2; setting < 11; setting++) {
                int i = setting;
                range("attempt " + i, LEAST[i], GREATEST[i], v -> five().attempt(u, i, v, 1));
            }
            range("attempt's setting", 2, 10, v -> five().attempt(u, v, 5, 300));
            range("attempt's n", 1, 300, v -> five().attempt(u, 4, 256, v));
            range("bestGain's first", 0, 256, v -> five().bestGain(u, v, 128, 1, 5));
            range("bestGain's step", 1, 128, v -> five().bestGain(u, 0, v, 3, 5));
            range("bestGain's count", 1, 8, v -> five().bestGain(u, 0, 36, v, 5));
            range("bestGain's n", 1, 300, v -> five().bestGain(u, 0, 64, 2, v));
        }
    }

    /** "2 to 5 units (3 at first)" */
    private static void unitsOfSetUp() {
        PrintRegister x = new PrintRegister();
        due("units at first", x.count(1), 3);
        for (int units = 2; units <= 5; units++) {
            x.run(units);
            due("setUp answers the time that it was", x.setUp(units), units);
            due("units", x.count(1), units);
            due("time", x.count(0), 0);
            due("the last unit", x.state(units - 1, 13), 5 * (units - 1));
            due("the unit behind it", x.state(units, 13), Check.NO_SUCH);
        }
        due("setUp at the time 0", x.setUp(2), 0);
    }

    /** Which numbers are units, in each method, for each number of units. */
    private static void everyNumberOfUnits() {
        for (int units = 2; units <= 5; units++) {
            for (int u : new int[] {MIN, -1, 0, 1, 2, 3, 4, 5, 6, MAX}) {
                PrintRegister x = new PrintRegister();
                x.setUp(units);
                x.run(30);
                boolean isUnit = u >= 0 && u < units;
                int[] answers = {x.set(u, 2, 200), x.get(u, 0), x.adjust(u, 0, 0), x.restart(u), x.disturb(u, 0, 1), x.hide(u, 0),
                    x.falseMark(u, 0, 0), x.seen(u, 0), x.state(u, 0)};
                for (int i = 0; i < answers.length; i++) {
                    due("is " + u + " one of " + units + " units, in method " + i, answers[i] == Check.NO_SUCH ? 0 : 1, isUnit ? 1 : 0);
                }
                boolean isControlled = isUnit && u > 0;
                int[] more = {x.errors(u, 1, 0), x.forecast(u, 0, 5), x.attempt(u, 2, 200, 1), x.bestGain(u, 0, 1, 1, 1)};
                for (int i = 0; i < more.length; i++) {
                    due("is " + u + " a controlled one of " + units + ", in method " + i, more[i] == Check.NO_SUCH ? 0 : 1, isControlled ? 1 : 0);
                }
            }
        }
    }

    /** The least and the greatest value of each setting stand, in no unit and no setting but this one. */
    private static void settings() {
        for (int unit = 0; unit < 5; unit++) {
            for (int setting = 0; setting < 11; setting++) {
                for (int value : new int[] {LEAST[setting], GREATEST[setting]}) {
                    PrintRegister x = five();
                    due("the previous value", x.set(unit, setting, value), FIRST[setting]);
                    for (int u = 0; u < 5; u++) {
                        for (int i = 0; i < 11; i++) {
                            due("get(" + u + ", " + i + ")", x.get(u, i), u == unit && i == setting ? value : FIRST[i]);
                        }
                    }
                    due("set what it is", x.set(unit, setting, value), value);
                }
            }
        }
        PrintRegister x = new PrintRegister();
        due("DISTANCE at the time 0", x.set(1, 0, 20), 5);
        x.run(1);
        due("DISTANCE at the time 1", x.set(1, 0, 5), Check.NOT_POSSIBLE);
        due("SENSOR at the time 1", x.set(1, 1, 3), Check.NOT_POSSIBLE);
        for (int i = 2; i < 11; i++) due("another setting at the time 1", x.set(1, i, GREATEST[i]), FIRST[i]);
        x.setUp(3);
        due("DISTANCE at the time 0 again", x.set(1, 0, 1), 5);
        due("SENSOR at the time 0 again", x.set(1, 1, 10), 3);
        x.save(0);
        x.run(7);
        x.restore(0);
        due("DISTANCE at the time 0 of a slot", x.set(1, 0, 2), 1);
    }

    private static void byHand() {
        for (int unit = 0; unit < 5; unit++) {
            for (int i = 0; i < 3; i++) {
                PrintRegister x = five();
                due("at first", x.adjust(unit, i, MOST_BY_HAND[i]), 0);
                due("the greatest", x.adjust(unit, i, -MOST_BY_HAND[i]), MOST_BY_HAND[i]);
                due("the least", x.state(unit, i), -MOST_BY_HAND[i]);
                for (int u = 0; u < 5; u++) {
                    for (int what = 0; what < 13; what++) {
                        if (u != unit || what != i) due("nothing else changes", x.state(u, what), 0);
                    }
                }
                x.run(1);
                due("the offset", x.seen(unit, 0), i == 0 ? -5000 : 0);
                due("the skew", x.seen(unit, 1), i == 0 ? 0 : -MOST_BY_HAND[i]);
            }
        }
        PrintRegister x = new PrintRegister();
        x.adjust(1, 1, 3000);
        x.adjust(1, 2, 2000);
        x.adjust(2, 1, -3000);
        x.adjust(2, 2, -2000);
        x.run(1);
        due("both skews together", x.seen(1, 1), 5000);
        due("both skews together", x.seen(2, 1), -5000);
    }

    private static void speedsAtTheEnds() {
        PrintRegister x = new PrintRegister();
        due("the speed at first", x.speed(0), 0);
        due("again", x.speed(1000), 0);
        due("the greatest", x.count(2), 1000);
        x.set(0, 10, 500);
        x.set(1, 10, -500);
        x.run(1);
        due("500 * 1000 / 100", x.seen(0, 0), 5000);
        due("-500 * 1000 / 100", x.seen(1, 0), -5000);
        x.run(1);
        due("no change any more", x.seen(0, 0), 0);
        due("the previous speed", x.speed(0), 1000);
        x.run(1);
        due("500 * -1000 / 100", x.seen(0, 0), -5000);
        due("-500 * -1000 / 100", x.seen(1, 0), 5000);
        x.speed(1000);
        x.speed(0);
        x.run(1);
        due("what was between the repeats is no change", x.seen(0, 0), 0);
        x.speed(1);
        x.set(0, 10, 99);
        x.set(1, 10, -99);
        x.run(1);
        due("99 / 100", x.seen(0, 0), 0);
        due("-99 / 100", x.seen(1, 0), 0);
        x.speed(0);
        x.set(0, 10, 100);
        x.set(1, 10, 101);
        x.run(1);
        due("-100 / 100", x.seen(0, 0), -1);
        due("-101 / 100", x.seen(1, 0), -1);
    }

    /** "in the i-th repeat of it (i from 0) its value is amount * (duration - i) / duration; behind the last one it is gone" */
    private static void disturbancesAtTheEnds() {
        for (int amount : new int[] {3000, 2999, 1, 0, -1, -2999, -3000}) {
            for (int duration : new int[] {1, 2, 7, 49, 50}) {
                PrintRegister x = new PrintRegister();
                x.run(2);
                due("disturb", x.disturb(0, amount, duration), 2);
                for (int i = 0; i < duration; i++) {
                    due("left before the repeat " + i, x.state(0, 10), duration - i);
                    x.run(1);
                    due(amount + "/" + duration + " in the repeat " + i, x.seen(0, 0), amount * (duration - i) / duration);
                }
                due("left behind it", x.state(0, 10), 0);
                x.run(1);
                due("it is gone", x.seen(0, 0), 0);
                due("left later", x.state(0, 10), 0);
            }
        }
        PrintRegister x = new PrintRegister();
        x.disturb(0, 3000, 50);
        x.run(49);
        due("left", x.state(0, 10), 1);
        due("a new one replaces the last repeat", x.disturb(0, -7, 2), 49);
        x.run(1);
        due("-7", x.seen(0, 0), -7);
        x.run(1);
        due("-7 / 2", x.seen(0, 0), -3);
        due("no other unit", x.state(1, 10), 0);
    }

    private static void hidingAtTheEnds() {
        for (int repeats : new int[] {1, 2, 49, 50}) {
            PrintRegister x = new PrintRegister();
            x.run(9);
            due("hide", x.hide(1, repeats), 0);
            for (int i = 0; i < repeats; i++) {
                due("left", x.state(1, 11), repeats - i);
                x.run(1);
                due("hidden in the repeat " + i + " of " + repeats, x.seen(1, 4), 0);
            }
            due("left behind it", x.state(1, 11), 0);
            x.run(1);
            due("seen again", x.seen(1, 4), 1);
            due("left later", x.state(1, 11), 0);
            due("hide again", x.hide(1, 50), 0);
            due("end it", x.hide(1, 0), 50);
            due("ended", x.hide(1, 0), 0);
            x.run(1);
            due("not hidden", x.seen(1, 4), 1);
        }
    }

    private static void falseMarksAtTheEnds() {
        for (int offset : new int[] {3000, -3000}) {
            for (int repeats : new int[] {1, 2, 49, 50}) {
                PrintRegister x = new PrintRegister();
                x.set(1, 2, 2000);
                x.set(1, 3, 1);
                x.run(9);
                x.hide(1, 50);
                x.run(1);
                due("falseMark", x.falseMark(1, offset, repeats), 0);
                for (int i = 0; i < repeats; i++) {
                    due("left", x.state(1, 12), repeats - i);
                    x.run(1);
                    due("seen in the repeat " + i + " of " + repeats, x.seen(1, 4), 2);
                    due("at its offset", x.seen(1, 5), offset);
                    x.set(1, 4, 0);
                }
                due("left behind it", x.state(1, 12), 0);
                x.hide(1, 1);
                x.run(1);
                due("gone", x.seen(1, 4), 0);
                due("left later", x.state(1, 12), 0);
                due("again", x.falseMark(1, offset, 50), 0);
                due("end it", x.falseMark(1, -offset, 0), 50);
                due("ended", x.falseMark(1, 0, 0), 0);
            }
        }
    }

    /** "Returns the number of repeats after which it comes to the last unit (its way plus 1)" */
    private static void splicesAtTheEnds() {
        for (int distance : new int[] {1, 20}) {
            for (int units = 2; units <= 5; units++) {
                PrintRegister x = new PrintRegister();
                x.setUp(units);
                for (int u = 0; u < units; u++) x.set(u, 0, distance);
                int way = distance * (units - 1);
                due("none", x.count(3), 0);
                due("splice", x.splice(-3000, 50), way + 1);
                for (int i = 0; i <= way; i++) {
                    due("still to come", x.count(3), way + 1 - i);
                    for (int u = 0; u < units; u++) {
                        if (distance * u == i) due("it has not come to " + u, x.state(u, 10), 0);
                    }
                    x.run(1);
                    for (int u = 0; u < units; u++) {
                        if (distance * u != i) continue;
                        due("it has come to " + u, x.seen(u, 0), -3000);
                        due("left", x.state(u, 10), 49);
                        due("ready: SENSOR + READY, and a repeat less", x.state(u, 7), 10);
                    }
                }
                due("come to the last unit", x.count(3), 0);
                x.run(60);
                due("it does not come again", x.state(units - 1, 10), 0);
                due("nor to unit 0", x.state(0, 10), 0);
                due("nor is it counted", x.count(3), 0);
            }
        }
    }

    private static void repeatsAtTheEnds() {
        PrintRegister x = new PrintRegister();
        due("run(1)", x.run(1), 1);
        due("run(300)", x.run(300), 301);
        due("run(299)", x.run(299), 600);
        due("time", x.count(0), 600);
        due("each repeat was made: unit 1 from 8 on, unit 2 from 13 on", x.total(0), 592 + 587);
    }

    /** "The latest 60 true errors that a sensor saw (also if nothing was recognized) are kept for each unit" */
    private static void errorsThatWereKept() {
        PrintRegister x = new PrintRegister();
        x.setUp(2);
        x.set(1, 4, 0);
        x.set(1, 5, 0);
        x.run(8);
        for (int what = 0; what < 4; what++) due("none is kept", x.errors(1, 60, what), 0);
        x.setUp(2);
        x.set(1, 4, 0);
        x.set(1, 5, 0);
        x.set(1, 2, 5);
        // From the time 8 on, the errors are -1, -2, -3, ..: only the first five are recognized.
        x.run(5);
        for (int i = 1; i <= 70; i++) {
            x.adjust(1, 0, -i);
            x.run(1);
            if (i < 4) continue;
            int seen = i - 3;
            int kept = Math.min(seen, 60);
            due("how many are kept of " + seen, x.errors(1, 60, 2), kept);
            due("the oldest of them is there", x.errors(1, 60, 1), (seen - kept + 1 + seen) * kept / 2);
            if (seen > 1) due("all but the oldest", x.errors(1, kept - 1, 1), (seen - kept + 2 + seen) * (kept - 1) / 2);
            due("the greatest", x.errors(1, 60, 0), seen);
        }
        due("of 1", x.errors(1, 1, 0), 67);
        due("of 1: how many", x.errors(1, 1, 2), 1);
        x.set(1, 6, 66);
        due("greater than 66", x.errors(1, 60, 3), 1);
        x.set(1, 6, 67);
        due("greater than 67", x.errors(1, 60, 3), 0);
        x.set(1, 6, 8);
        due("8 to 67, and greater than 8", x.errors(1, 60, 3), 59);
        due("of 59", x.errors(1, 59, 3), 59);
        x.set(1, 6, 0);
        due("greater than 0", x.errors(1, 60, 3), 60);
    }

    private static void forecastsAtTheEnds() {
        PrintRegister x = new PrintRegister();
        x.setUp(2);
        x.set(1, 4, 0);
        x.set(1, 5, 0);
        due("nothing is seen in 8 repeats: 8 + 5 are needed", x.forecast(1, 0, 13), 8);
        due("12 are too few", x.forecast(1, 0, 12), Check.NONE);
        due("5 are too few", x.forecast(1, 1000, 5), Check.NONE);
        x.run(4);
        due("4 repeats later", x.forecast(1, 0, 9), 4);
        x.run(4);
        due("just 5", x.forecast(1, 0, 5), 0);
        x.run(4);
        due("what was seen before does not count", x.forecast(1, 0, 5), 0);
        // 4 good ones, a bad one, and good ones again: 0, 0, 0, 0, 9, 0, 0, ..
        x.run(1);
        x.disturb(1, 9, 1);
        due("3 of before, a bad one, then 5", x.forecast(1, 8, 300), 4);
        due("9 are just enough", x.forecast(1, 8, 9), 4);
        due("8 are not", x.forecast(1, 8, 8), Check.NONE);
        due("9 is in a band of 9", x.forecast(1, 9, 5), 0);
        x.run(2);
        x.disturb(1, 9, 1);
        // 0, 9, 0, 9, 0, 0, 0, 0, 0
        due("two bad ones", x.forecast(1, 8, 300), 4);
        x.run(1);
        due("a bad one first", x.forecast(1, 8, 300), 3);
        x.run(1);
        x.adjust(1, 0, 10);
        due("what is on the way is good, but not long", x.forecast(1, 5, 300), Check.NONE);
        due("it never comes back without gains", x.forecast(1, 9, 300), Check.NONE);
        due("but it is in a band of 10", x.forecast(1, 10, 300), 0);
        x.run(20);
        x.disturb(1, 20, 50);
        due("300 are enough for it", x.forecast(1, 10, 300), 3 + 48);
        x.disturb(0, -20, 50);
        due("the later one", x.forecast(1, 10, 300), 3 + 5 + 48);
    }

    private static void forecastsOfABand() {
        for (int sign = -1; sign <= 1; sign += 2) {
            PrintRegister x = new PrintRegister();
            x.setUp(2);
            x.set(1, 4, 0);
            x.set(1, 5, 0);
            x.adjust(1, 0, sign * 1000);
            x.run(9);
            due("1000 is within 1000", x.forecast(1, 1000, 5), 0);
            due("but not within 999", x.forecast(1, 999, 300), Check.NONE);
            x.adjust(0, 0, -sign);
            due("1001 comes behind 8 repeats", x.forecast(1, 1000, 9), 0);
            x.run(8);
            due("1001 is not within 1000", x.forecast(1, 1000, 300), Check.NONE);
            x.adjust(1, 0, 0);
            x.adjust(0, 0, 0);
            due("1001 three times, 1 five times, then 0", x.forecast(1, 0, 300), 8);
            due("1 is within 1", x.forecast(1, 1, 300), 3);
        }
    }

    private static void attemptsAtTheEnds() {
        for (int sign = -1; sign <= 1; sign += 2) {
            PrintRegister x = new PrintRegister();
            x.setUp(2);
            x.set(1, 2, 2000);
            x.set(1, 3, 1);
            x.set(1, 5, 0);
            x.adjust(1, 0, sign * 5000);
            x.adjust(0, 0, -sign * 5000);
            due("8 repeats see nothing", x.attempt(1, 4, 0, 8), 0);
            due("the ninth does", x.attempt(1, 4, 0, 9), 10000);
            due("300 repeats", x.attempt(1, 4, 0, 300), 292 * 10000);
            x.run(9);
            due("n is 1", x.attempt(1, 4, 256, 1), 10000);
            due("n is 300", x.attempt(1, 4, 0, 300), 300 * 10000);
            due("what was seen before is not in the sum", x.attempt(1, 4, 0, 2), 20000);
        }
    }

    private static void gainsAtTheEnds() {
        PrintRegister x = new PrintRegister();
        x.setUp(2);
        x.set(1, 5, 0);
        x.set(1, 7, 2000);
        x.adjust(1, 0, 200);
        due("the least of all is 256", x.bestGain(1, 256, 1, 1, 20), 256);
        due("249 to 256", x.bestGain(1, 249, 1, 8, 300), 256);
        due("0, 128, 256", x.bestGain(1, 0, 128, 3, 300), 256);
        due("128, 256", x.bestGain(1, 128, 128, 2, 300), 256);
        due("4 to 256", x.bestGain(1, 4, 36, 8, 300), 256);
        due("0 to 7", x.bestGain(1, 0, 1, 8, 300), 7);
        due("0 and 1: 200 / 256 is 0, too", x.bestGain(1, 0, 1, 2, 300), 0);
        due("0 and 2", x.bestGain(1, 0, 2, 2, 300), 2);
        due("0 alone", x.bestGain(1, 0, 128, 1, 300), 0);
        due("nothing is seen: the least", x.bestGain(1, 7, 30, 8, 8), 7);
        due("nothing differs yet: the least", x.bestGain(1, 7, 30, 8, 12), 7);
        due("the first that differs", x.bestGain(1, 7, 30, 8, 13), 217);
        x.set(1, 7, 40);
        // 200 * gain / 256 is 39 for 50 and 51, and from 52 on 40, to which STEP limits it.
        due("the least of those that STEP limits", x.bestGain(1, 50, 1, 8, 13), 52);
        due("a best one in the midst", x.bestGain(1, 48, 4, 8, 13), 52);
        // A phase of 100 that was ended by hand before its errors are seen: each correction of them does harm.
        x.setUp(2);
        x.set(1, 5, 0);
        x.adjust(1, 0, 100);
        x.run(8);
        x.adjust(1, 0, 0);
        due("an error that is gone: the less is done, the better", x.bestGain(1, 0, 32, 8, 60), 0);
        due("of others", x.bestGain(1, 1, 36, 8, 60), 1);
    }

    /** "the last gain has to be at most 256" */
    private static void lastGains() {
        for (int count = 1; count <= 8; count++) {
            for (int step = 1; step <= 128; step++) {
                int greatest = 256 - step * (count - 1);
                PrintRegister x = new PrintRegister();
                if (greatest >= 0) due("just 256", x.bestGain(1, greatest, step, count, 1), greatest);
                due("257 or more", x.bestGain(1, Math.max(greatest + 1, 0), step, count, 1), Check.BAD_VALUE);
            }
        }
    }

    /** "everything happens in a copy, whose time is not limited" */
    private static void copiesBehindTheLastTime() {
        PrintRegister x = new PrintRegister();
        x.setUp(2);
        for (int i = 0; i < 333; i++) x.run(300);
        x.run(91);
        x.adjust(1, 0, 64);
        x.set(1, 5, 0);
        x.run(9);
        due("the last time", x.run(1), Check.NOT_POSSIBLE);
        // Corrected in the repeats 99994 and 99998: the errors are 64 twice, 32 four times, then 16.
        due("an error that was corrected", x.state(1, 0), 16);
        due("the last error", x.seen(1, 2), 32);
        due("forecast", x.forecast(1, 16, 300), 2);
        due("forecast of 0: BAND is 5", x.forecast(1, 5, 300), 2 + 4 + 4);
        due("attempt", x.attempt(1, 4, 0, 300), 2 * 32 + 298 * 16);
        due("bestGain", x.bestGain(1, 0, 64, 5, 300), 256);
        x.splice(100, 1);
        x.disturb(1, -100, 2);
        due("a splice comes behind it, too", x.attempt(1, 4, 0, 300) != 2 * 32 + 298 * 16 ? 1 : 0, 1);
        due("time", x.count(0), 100000);
        due("the splice is not under way here", x.count(3), 6);
        due("the disturbance stays", x.state(1, 10), 2);
    }

    private static void slotsBesideEachOther() {
        PrintRegister x = new PrintRegister();
        due("the slot 0 is empty", x.restore(0), Check.NOT_POSSIBLE);
        due("the slot 1 is empty", x.restore(1), Check.NOT_POSSIBLE);
        due("save at the time 0", x.save(1), 0);
        x.setUp(5);
        x.run(17);
        due("the slot 0 is still empty", x.restore(0), Check.NOT_POSSIBLE);
        due("save(0)", x.save(0), 17);
        x.setUp(2);
        x.run(4);
        due("the slot 1", x.restore(1), 0);
        due("three units", x.count(1), 3);
        due("nothing was seen", x.seen(0, 0), Check.NOT_POSSIBLE);
        due("the slot 0", x.restore(0), 17);
        due("five units", x.count(1), 5);
        x.run(3);
        due("the slot keeps it", x.restore(0), 17);
        due("a slot over the other", x.save(1), 17);
        x.run(1);
        due("the slot 1 then", x.restore(1), 17);
        Check.putText(x, "n3");
        x.save(0);
        x.wipe();
        x.restore(0);
        due("the pad was not saved", x.count(4), 0);
        Check.putText(x, "n44");
        x.restore(0);
        due("nor is it restored", x.count(4), 3);
        due("nor changed", x.carryOut(), 44);
    }
}
