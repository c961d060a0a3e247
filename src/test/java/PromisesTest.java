/** The promises one by one, with answers worked out by hand from the document. */
public final class PromisesTest {
    private static final int MIN = Integer.MIN_VALUE;
    private static final int MAX = Integer.MAX_VALUE;
    private static final int[] LEAST = {1, 1, 5, 1, 0, 0, 0, 1, 0, 0, -500};
    private static final int[] GREATEST = {20, 10, 2000, 20, 256, 256, 500, 2000, 256, 30, 500};
    private static final int[] FIRST = {5, 3, 200, 4, 128, 16, 5, 300, 64, 8, 0};

    private static int promise;

    public static void main(String[] args) {
        constants();
        newObject();
        setUp();
        set();
        get();
        adjust();
        restart();
        speed();
        disturb();
        hide();
        falseMark();
        splice();
        run();
        seen();
        state();
        errors();
        total();
        forecast();
        attempt();
        bestGain();
        put();
        wipe();
        fault();
        carryOut();
        count();
        save();
        restore();
        Check.end("PromisesTest");
    }

    private static void due(String call, long got, long want) {
        Check.due("promise " + promise + ": " + call, got, want);
    }

    private static void constants() {
        promise = 0;
        due("NO_SUCH", PrintRegister.NO_SUCH, -1);
        due("BAD_VALUE", PrintRegister.BAD_VALUE, -2);
        due("BAD_TEXT", PrintRegister.BAD_TEXT, -3);
        due("TOO_MANY", PrintRegister.TOO_MANY, -4);
        due("NOT_POSSIBLE", PrintRegister.NOT_POSSIBLE, -5);
        due("NONE", PrintRegister.NONE, -6);
        due("SHIFT", PrintRegister.SHIFT, 1000000000);
        int[] settings = {PrintRegister.DISTANCE, PrintRegister.SENSOR, PrintRegister.WINDOW, PrintRegister.MISSES,
            PrintRegister.GAIN, PrintRegister.SUM_GAIN, PrintRegister.BAND, PrintRegister.STEP, PrintRegister.LEARN,
            PrintRegister.READY, PrintRegister.PUSH};
        for (int i = 0; i < settings.length; i++) due("setting " + i, settings[i], i);
    }

    /** Everything that can be asked of units that are as at first. */
    private static void dueAsAtFirst(PrintRegister x, int units) {
        due("time", x.count(0), 0);
        due("units", x.count(1), units);
        due("speed", x.count(2), 0);
        due("splice", x.count(3), 0);
        for (int u = 0; u < units; u++) {
            for (int i = 0; i < 11; i++) due("get(" + u + ", " + i + ")", x.get(u, i), FIRST[i]);
            for (int i = 0; i < 13; i++) due("state(" + u + ", " + i + ")", x.state(u, i), 0);
            due("way of " + u, x.state(u, 13), 5L * u);
            due("seen at time 0", x.seen(u, 0), Check.NOT_POSSIBLE);
        }
        for (int u = 1; u < units; u++) {
            for (int i = 0; i < 4; i++) due("errors(" + u + ", 60, " + i + ")", x.errors(u, 60, i), 0);
        }
        for (int i = 0; i < 6; i++) due("total(" + i + ")", x.total(i), 0);
        due("the unit behind the last", x.get(units, 0), Check.NO_SUCH);
    }

    private static void newObject() {
        promise = 1;
        PrintRegister x = new PrintRegister();
        dueAsAtFirst(x, 3);
        due("length of the pad", x.count(4), 0);
        due("restore(0)", x.restore(0), Check.NOT_POSSIBLE);
        due("restore(1)", x.restore(1), Check.NOT_POSSIBLE);
    }

    /** An object in which nothing is as at first any more. */
    private static PrintRegister worked() {
        PrintRegister x = new PrintRegister();
        x.setUp(5);
        for (int u = 0; u < 5; u++) {
            for (int i = 0; i < 11; i++) x.set(u, i, GREATEST[i]);
            x.set(u, 0, 2);
            x.set(u, 1, 2);
            for (int i = 0; i < 3; i++) x.adjust(u, i, 500 + u);
        }
        x.speed(700);
        x.run(30);
        for (int u = 0; u < 5; u++) {
            x.disturb(u, 1000, 50);
            x.hide(u, 50);
            x.falseMark(u, 100, 50);
        }
        x.splice(3000, 50);
        x.run(5);
        Check.putText(x, "n5,v7");
        return x;
    }

    private static void setUp() {
        promise = 2;
        PrintRegister x = worked();
        x.save(1);
        for (int bad : new int[] {MIN, -1, 0, 1, 6, MAX}) due("setUp(" + bad + ")", x.setUp(bad), Check.BAD_VALUE);
        due("units", x.count(1), 5);
        due("setUp(2)", x.setUp(2), 35);
        dueAsAtFirst(x, 2);
        due("the pad stays", x.count(4), 5);
        due("setUp(5)", x.setUp(5), 0);
        dueAsAtFirst(x, 5);
        x.run(5);
        due("nothing is seen before the first piece arrives", x.seen(1, 2), Check.NONE);
        due("no old disturbance", x.seen(1, 0), 0);
        due("setUp(3)", x.setUp(3), 5);
        x.speed(10);
        x.set(1, 10, 500);
        x.run(1);
        due("the speed before is 0 again", x.seen(1, 0), 50);
        due("the slots stay", x.restore(1), 35);
        due("units of the slot", x.count(1), 5);
    }

    private static void set() {
        promise = 3;
        PrintRegister x = new PrintRegister();
        for (int u = 0; u < 3; u++) {
            for (int i = 0; i < 11; i++) {
                String of = "set(" + u + ", " + i + ", ..)";
                due(of + " too small", x.set(u, i, LEAST[i] - 1), Check.BAD_VALUE);
                due(of + " too great", x.set(u, i, GREATEST[i] + 1), Check.BAD_VALUE);
                due(of + " far too small", x.set(u, i, MIN), Check.BAD_VALUE);
                due(of + " far too great", x.set(u, i, MAX), Check.BAD_VALUE);
                due(of + " least", x.set(u, i, LEAST[i]), FIRST[i]);
                due(of + " greatest", x.set(u, i, GREATEST[i]), LEAST[i]);
                due(of + " stands", x.get(u, i), GREATEST[i]);
            }
        }
        for (int bad : new int[] {MIN, -1, 11, MAX}) due("no such setting", x.set(1, bad, 5), Check.BAD_VALUE);
        for (int bad : new int[] {MIN, -1, 3, MAX}) due("no such unit", x.set(bad, 99, 99), Check.NO_SUCH);
        x.run(1);
        for (int u = 0; u < 3; u++) {
            due("DISTANCE later", x.set(u, 0, 5), Check.NOT_POSSIBLE);
            due("SENSOR later", x.set(u, 1, 5), Check.NOT_POSSIBLE);
            due("a wrong DISTANCE later", x.set(u, 0, 21), Check.BAD_VALUE);
            due("WINDOW later", x.set(u, 2, 100), 2000);
            due("DISTANCE stays", x.get(u, 0), 20);
        }
    }

    private static void get() {
        promise = 4;
        PrintRegister x = new PrintRegister();
        x.set(1, 4, 77);
        due("get(1, 4)", x.get(1, 4), 77);
        due("another unit", x.get(2, 4), 128);
        for (int bad : new int[] {MIN, -1, 11, MAX}) due("no such setting", x.get(1, bad), Check.BAD_VALUE);
        for (int bad : new int[] {MIN, -1, 3, MAX}) due("no such unit", x.get(bad, -1), Check.NO_SUCH);
    }

    private static void adjust() {
        promise = 5;
        int[] most = {5000, 3000, 2000};
        PrintRegister x = new PrintRegister();
        for (int u = 0; u < 3; u++) {
            for (int what = 0; what < 3; what++) {
                due("least", x.adjust(u, what, -most[what]), 0);
                due("greatest", x.adjust(u, what, most[what]), -most[what]);
                due("too small", x.adjust(u, what, -most[what] - 1), Check.BAD_VALUE);
                due("too great", x.adjust(u, what, most[what] + 1), Check.BAD_VALUE);
                due("MIN", x.adjust(u, what, MIN), Check.BAD_VALUE);
                due("it stands", x.state(u, what), most[what]);
            }
        }
        for (int bad : new int[] {MIN, -1, 3, MAX}) due("no such thing", x.adjust(1, bad, 0), Check.BAD_VALUE);
        for (int bad : new int[] {MIN, -1, 3, MAX}) due("no such unit", x.adjust(bad, 7, 9999), Check.NO_SUCH);
        due("nothing else changes", x.state(1, 8), 0);

        x = new PrintRegister();
        x.adjust(0, 0, 30);
        x.adjust(0, 1, 4);
        x.adjust(0, 2, 5);
        x.run(1);
        due("unit 0 prints its phase", x.seen(0, 0), 30);
        due("unit 0 prints its skew", x.seen(0, 1), 9);
        x.run(7);
        due("nothing is seen yet", x.seen(1, 2), Check.NONE);
        x.run(1);
        due("unit 0 stands against it", x.seen(1, 2), -30);
        due("but not its skew", x.seen(1, 3), 0);
    }

    private static void restart() {
        promise = 6;
        PrintRegister x = new PrintRegister();
        x.set(1, 10, 500);
        x.run(20);
        x.splice(0, 1);
        x.run(5);
        x.adjust(1, 0, 100);
        x.adjust(1, 2, 50);
        x.speed(10);
        x.run(4);
        due("expected error", x.state(1, 8), 150);
        due("expected skew", x.state(1, 9), 50);
        due("sum", x.state(1, 4) != 0 ? 1 : 0, 1);
        due("wait", x.state(1, 5) != 0 ? 1 : 0, 1);
        due("ready time", x.state(1, 7) != 0 ? 1 : 0, 1);
        int feed = x.state(1, 3);
        int phase = x.state(1, 0);
        int skew = x.state(1, 1);
        due("there is a feed", feed != 0 ? 1 : 0, 1);
        due("restart(1)", x.restart(1), feed);
        for (int what = 3; what <= 9; what++) due("state(1, " + what + ")", x.state(1, what), 0);
        due("the phase stays", x.state(1, 0), phase);
        due("the skew setting stays", x.state(1, 1), skew);
        due("the tilt stays", x.state(1, 2), 50);
        due("restart(1) again", x.restart(1), 0);
        due("restart(0)", x.restart(0), 0);
        for (int bad : new int[] {MIN, -1, 3, MAX}) due("no such unit", x.restart(bad), Check.NO_SUCH);

        // A wait that was ended by hand adds nothing to the expected error.
        x = new PrintRegister();
        x.adjust(1, 0, 200);
        x.run(9);
        due("wait", x.state(1, 5), 3);
        x.hide(1, 50);
        x.restart(1);
        x.run(8);
        due("expected error", x.state(1, 8), 0);
        due("misses", x.state(1, 6), 8);
        x.restart(1);
        due("misses then", x.state(1, 6), 0);
    }

    private static void speed() {
        promise = 7;
        PrintRegister x = new PrintRegister();
        due("speed(1000)", x.speed(1000), 0);
        due("speed(0)", x.speed(0), 1000);
        due("speed(300)", x.speed(300), 0);
        for (int bad : new int[] {MIN, -1, 1001, MAX}) due("speed(" + bad + ")", x.speed(bad), Check.BAD_VALUE);
        due("count(2)", x.count(2), 300);
        x.set(0, 10, -77);
        x.set(1, 10, 77);
        x.run(1);
        due("a change in the first repeat", x.seen(1, 0), 231);
        due("also of unit 0", x.seen(0, 0), -231);
        x.run(1);
        due("no change", x.seen(1, 0), 0);
        x.speed(500);
        x.speed(299);
        x.run(1);
        due("divided toward 0", x.seen(1, 0), 0);
        x.speed(297);
        x.run(1);
        due("-154 / 100", x.seen(1, 0), -1);
        due("154 / 100", x.seen(0, 0), 1);
        learning();
    }

    private static void learning() {
        PrintRegister x = new PrintRegister();
        x.setUp(2);
        x.set(1, 10, 500);
        x.set(1, 4, 0);
        x.set(1, 5, 0);
        x.run(10);
        x.speed(9);
        x.run(1);
        x.speed(19);
        x.run(1);
        due("pushed by 10", x.seen(1, 0), 50);
        x.run(2);
        due("a change of 9 teaches nothing", x.total(5), 0);
        due("expected error", x.state(1, 8), 45);
        x.run(1);
        due("a change of 10 does", x.total(5), 1);
        due("5 * 100 / 10 * 64 / 256", x.state(1, 3), 12);
        x.speed(0);
        x.run(1);
        due("fed forward: (500 - 12) * -19 / 100", x.seen(1, 0), -92);
        x.run(3);
        due("-92 * 100 / -19 * 64 / 256 more", x.state(1, 3), 12 + 121);
        x.set(1, 8, 0);
        x.set(1, 2, 2000);
        x.speed(100);
        x.run(4);
        due("a great change is seen", x.seen(1, 5), 367);
        due("LEARN 0 teaches nothing", x.total(5), 2);
        x.run(2);
        x.set(1, 8, 256);
        x.set(1, 10, -500);
        x.speed(0);
        x.run(4);
        due("(-500 - 133) * -100 / 100", x.seen(1, 2), 633);
        due("133 - 633", x.state(1, 3), -500);
        x.adjust(1, 0, 1000);
        x.speed(10);
        x.run(4);
        due("limited", x.state(1, 3), 500);
        due("three times", x.total(5), 4);
        // A change by 0 counts, too: the expected error is what comes.
        x.adjust(1, 0, 0);
        x.set(1, 10, 500);
        x.run(10);
        x.speed(20);
        x.run(4);
        due("a change of the feed by 0", x.state(1, 3), 500);
        due("is counted", x.total(5), 5);
    }

    private static void disturb() {
        promise = 8;
        PrintRegister x = new PrintRegister();
        x.run(4);
        due("disturb", x.disturb(1, 3000, 50), 4);
        due("left", x.state(1, 10), 50);
        due("disturb anew", x.disturb(1, -1000, 3), 4);
        int[] values = {-1000, -666, -333, 0, 0};
        for (int i = 0; i < values.length; i++) {
            due("left before " + i, x.state(1, 10), Math.max(0, 3 - i));
            x.run(1);
            due("value " + i, x.seen(1, 0), values[i]);
        }
        due("unit 0", x.disturb(0, 7, 1), 9);
        x.run(1);
        due("unit 0 is disturbed", x.seen(0, 0), 7);
        for (int bad : new int[] {MIN, -3001, 3001, MAX}) due("amount", x.disturb(1, bad, 5), Check.BAD_VALUE);
        for (int bad : new int[] {MIN, -1, 0, 51, MAX}) due("duration", x.disturb(1, 5, bad), Check.BAD_VALUE);
        for (int bad : new int[] {MIN, -1, 3, MAX}) due("unit", x.disturb(bad, 9999, 0), Check.NO_SUCH);
        due("least", x.disturb(2, -3000, 50), 10);
        due("greatest", x.disturb(2, 3000, 1), 10);
        x.disturb(2, 0, 7);
        due("an amount of 0 lasts, too", x.state(2, 10), 7);
    }

    private static void hide() {
        promise = 9;
        PrintRegister x = new PrintRegister();
        x.run(9);
        due("hide(1, 50)", x.hide(1, 50), 0);
        due("hide(1, 2)", x.hide(1, 2), 50);
        x.run(1);
        due("nothing recognized", x.seen(1, 4), 0);
        due("but seen", x.seen(1, 2), 0);
        due("a miss", x.state(1, 6), 1);
        due("left", x.state(1, 11), 1);
        x.run(1);
        due("still hidden", x.seen(1, 4), 0);
        x.run(1);
        due("no more", x.seen(1, 4), 1);
        due("misses", x.state(1, 6), 0);
        x.hide(1, 5);
        x.run(1);
        due("hide(1, 0)", x.hide(1, 0), 4);
        x.run(1);
        due("ended", x.seen(1, 4), 1);
        due("unit 0", x.hide(0, 3), 0);
        x.run(1);
        due("goes by", x.state(0, 11), 2);
        for (int bad : new int[] {MIN, -1, 51, MAX}) due("repeats", x.hide(1, bad), Check.BAD_VALUE);
        for (int bad : new int[] {MIN, -1, 3, MAX}) due("unit", x.hide(bad, 51), Check.NO_SUCH);
    }

    private static void falseMark() {
        promise = 10;
        PrintRegister x = new PrintRegister();
        x.set(1, 6, 500);
        x.adjust(1, 0, 50);
        x.adjust(1, 2, 20);
        x.run(12);
        due("expected", x.state(1, 8), 50);
        due("falseMark", x.falseMark(1, 90, 50), 0);
        due("instead", x.falseMark(1, 60, 3), 50);
        x.adjust(1, 2, 30);
        x.adjust(1, 0, 39);
        x.run(3);
        due("the true one differs less", x.seen(1, 4), 1);
        due("gone", x.state(1, 12), 0);
        x.falseMark(1, 60, 3);
        x.run(1);
        due("50 was expected, 39 is true, 60 is false", x.seen(1, 4), 2);
        due("offset", x.seen(1, 5), 60);
        due("skew as expected", x.seen(1, 6), 20);
        due("true skew", x.seen(1, 3), 30);
        due("expected then", x.state(1, 8), 60);
        due("false ones", x.total(1), 1);
        x.falseMark(1, 81, 1);
        x.run(1);
        due("both differ by 21", x.seen(1, 4), 1);
        due("skew measured", x.seen(1, 6), 30);
        x.hide(1, 2);
        x.falseMark(1, 239, 1);
        x.run(1);
        due("at the edge of the window", x.seen(1, 4), 2);
        x.falseMark(1, 440, 1);
        x.run(1);
        due("outside the window", x.seen(1, 4), 0);
        x.falseMark(1, 5, 9);
        due("ended", x.falseMark(1, 3000, 0), 9);
        due("none", x.state(1, 12), 0);
        due("unit 0", x.falseMark(0, -3000, 50), 0);
        x.run(1);
        due("goes by", x.state(0, 12), 49);
        for (int bad : new int[] {MIN, -3001, 3001, MAX}) due("offset", x.falseMark(1, bad, 0), Check.BAD_VALUE);
        for (int bad : new int[] {MIN, -1, 51, MAX}) due("repeats", x.falseMark(1, 0, bad), Check.BAD_VALUE);
        for (int bad : new int[] {MIN, -1, 3, MAX}) due("unit", x.falseMark(bad, 9999, 99), Check.NO_SUCH);
    }

    private static void splice() {
        promise = 11;
        PrintRegister x = new PrintRegister();
        x.set(1, 0, 2);
        x.set(2, 0, 3);
        x.set(1, 6, 0);
        x.set(1, 9, 0);
        x.set(2, 9, 30);
        x.adjust(1, 0, 1);
        x.run(30);
        due("a sum", x.state(1, 4) != 0 ? 1 : 0, 1);
        due("splice", x.splice(3000, 50), 6);
        due("a new one", x.splice(-300, 3), 6);
        for (int bad : new int[] {MIN, -3001, 3001, MAX}) due("amount", x.splice(bad, 5), Check.BAD_VALUE);
        for (int bad : new int[] {MIN, -1, 0, 51, MAX}) due("duration", x.splice(5, bad), Check.BAD_VALUE);
        int phase = x.state(1, 0);
        int[][] offsets = {{-300, -200, -100, 0, 0, 0, 0, 0}, {0, 0, -300, -200, -100, 0, 0, 0}, {0, 0, 0, 0, 0, -300, -200, -100}};
        int[][] ready = {{10, 9, 8, 7, 6, 5, 4, 3}, {0, 0, 2, 1, 0, 0, 0, 0}, {0, 0, 0, 0, 0, 32, 31, 30}};
        for (int i = 0; i < 8; i++) {
            due("left until the last unit", x.count(3), Math.max(0, 6 - i));
            x.run(1);
            for (int u = 0; u < 3; u++) {
                if (u != 1 || i < 5) due("offset " + u + " at " + i, x.seen(u, 0), offsets[u][i] + (u == 1 ? phase : 0));
                due("ready " + u + " at " + i, x.state(u, 7), ready[u][i]);
            }
            if (i == 2) due("the sum is 0", x.state(1, 4), 0);
        }

        // A new splice in place of one that is under way: unit 2 gets the new one alone.
        x = new PrintRegister();
        x.splice(100, 1);
        x.run(8);
        due("under way", x.count(3), 3);
        due("the next", x.splice(200, 1), 11);
        x.run(3);
        due("the old one does not come", x.seen(2, 0), 0);
        x.set(2, 4, 0);
        x.set(2, 5, 0);
        x.run(8);
        due("the new one does", x.seen(2, 0), 200);
        due("it has come", x.count(3), 0);

        // While ready, the window is four times as wide.
        x = new PrintRegister();
        x.setUp(2);
        x.set(1, 9, 5);
        x.run(20);
        x.splice(0, 1);
        x.run(6);
        due("ready", x.state(1, 7), 7);
        x.disturb(1, 800, 1);
        x.run(4);
        due("recognized", x.seen(1, 5), 800);
        x = new PrintRegister();
        x.setUp(2);
        x.run(20);
        x.disturb(1, 800, 1);
        x.run(4);
        due("not recognized", x.seen(1, 4), 0);
        due("but seen", x.seen(1, 2), 800);

        // The ways are those of now, also if DISTANCE is set behind splice().
        x = new PrintRegister();
        x.splice(500, 1);
        x.set(1, 0, 1);
        x.set(2, 0, 1);
        due("a shorter way", x.count(3), 3);
        x.run(3);
        due("is gone", x.seen(2, 0), 500);
    }

    private static void run() {
        promise = 12;
        PrintRegister x = new PrintRegister();
        for (int bad : new int[] {MIN, -1, 0, 301, MAX}) due("run(" + bad + ")", x.run(bad), Check.BAD_VALUE);
        due("run(1)", x.run(1), 1);
        due("run(300)", x.run(300), 301);
        correcting();
        windowsAfterMisses();
        for (int time = 301; time + 300 <= 100000; time += 300) x.run(300);
        due("near the end", x.count(0), 99901);
        due("run(100)", x.run(100), Check.NOT_POSSIBLE);
        due("run(301)", x.run(301), Check.BAD_VALUE);
        due("run(99)", x.run(99), 100000);
        due("run(1)", x.run(1), Check.NOT_POSSIBLE);
        due("forecast in a copy", x.forecast(1, 5, 300), 0);
        due("attempt in a copy", x.attempt(1, 4, 0, 300), 0);
        Check.putText(x, "n1");
        due("carryOut", x.carryOut(), Check.NOT_POSSIBLE);
        x.wipe();
        Check.putText(x, "v1");
        due("carryOut without repeats", x.carryOut(), 0);
    }

    private static void correcting() {
        PrintRegister x = new PrintRegister();
        x.setUp(2);
        x.set(1, 2, 2000);
        x.set(1, 5, 256);
        x.set(1, 4, 256);
        x.set(1, 7, 2000);
        x.adjust(1, 0, -1500);
        x.adjust(1, 2, 5);
        x.run(9);
        due("m + sum", x.state(1, 0), 500);
        due("sum", x.state(1, 4), -1500);
        due("a skew of 5 is in the band", x.total(4), 0);
        x.run(3);
        due("wait ends", x.state(1, 5), 0);
        due("what is due next is expected: all but the limit", x.state(1, 8), 500);
        due("expected skew", x.state(1, 9), 5);
        x.run(1);
        due("and comes", x.seen(1, 2), 500);
        due("sum then", x.state(1, 4), -1000);
        due("-(500 - 1000) is limited by nothing", x.state(1, 0), 1000);
        x.set(1, 7, 7);
        x.run(3);
        due("no correction while waiting", x.state(1, 0), 1000);
        x.run(1);
        due("sum 0", x.state(1, 4), 0);
        due("limited by STEP", x.state(1, 0), 993);
        due("phases", x.total(3), 3);

        // A skew alone leaves the phase and the sum, but waits, too.
        x = new PrintRegister();
        x.setUp(2);
        x.adjust(1, 2, 2000);
        x.set(1, 7, 2000);
        x.set(1, 4, 256);
        x.run(9);
        due("skew setting", x.state(1, 1), -2000);
        due("corrections of skews", x.total(4), 1);
        due("corrections of phases", x.total(3), 0);
        due("wait", x.state(1, 5), 3);
        x.run(3);
        due("expected error", x.state(1, 8), 0);
        due("expected skew", x.state(1, 9), 0);
        x.adjust(1, 1, 900);
        x.run(4);
        due("limited by STEP", x.state(1, 1), 900 - 2000);
        x.adjust(1, 1, -2500);
        x.run(4);
        due("-(-500 * 256) / 256", x.state(1, 1), -2000);
        x.adjust(1, 1, 2000);
        x.adjust(1, 2, -2000);
        x.run(8);
        x.adjust(1, 1, 1900);
        x.adjust(1, 2, -2000);
        x.run(1);
        x.adjust(1, 1, 2950);
        x.run(3);
        due("100 more are limited by 3000", x.state(1, 1), 3000);
        x.run(3);
        due("only 50 are expected", x.state(1, 9), 950 + 50);
        x.adjust(1, 1, 2000);
        x.run(8);
        x.adjust(1, 0, 50);
        x.set(1, 4, 128);
        x.run(4);
        due("a phase alone", x.state(1, 0), 50 - 28);
        due("the skew setting stays", x.state(1, 1), 2000);
        limitsAndSums();
    }

    private static void limitsAndSums() {
        // The phase is limited by 5000, and the expected error gets what was really added.
        PrintRegister x = new PrintRegister();
        x.setUp(2);
        x.set(1, 2, 2000);
        x.set(1, 5, 0);
        x.run(9);
        x.adjust(1, 0, 4900);
        x.disturb(1, -3000, 50);
        x.adjust(0, 0, 5000);
        x.set(1, 7, 2000);
        x.run(3);
        x.restart(1);
        x.set(1, 3, 1);
        x.run(1);
        due("true error: 4900 - 3000 - 0", x.seen(1, 2), 1900);
        due("recognized", x.seen(1, 4), 1);
        due("phase", x.state(1, 0), 3950);
        x = new PrintRegister();
        x.setUp(2);
        x.set(1, 2, 2000);
        x.adjust(1, 0, 4900);
        x.adjust(0, 0, 5000);
        x.set(1, 4, 256);
        x.set(1, 5, 256);
        x.run(9);
        due("-100 twice is limited", x.state(1, 0), 5000);
        x.run(3);
        due("only 100 is expected", x.state(1, 8), 0);

        // The sum is limited by 20000; m of 0 in a band of 0 corrects nothing.
        x = new PrintRegister();
        x.setUp(2);
        x.set(1, 2, 2000);
        x.set(1, 4, 0);
        x.set(1, 5, 0);
        x.set(1, 1, 1);
        x.adjust(1, 0, 1999);
        x.run(300);
        due("sum", x.state(1, 4), 20000);
        due("the phase stays", x.state(1, 0), 1999);
        due("corrections by 0 are counted", x.total(3), 147);
        x.adjust(1, 0, -1999);
        x.set(1, 3, 1);
        x.run(300);
        due("sum then", x.state(1, 4), -20000);
        x.adjust(1, 0, 0);
        x.set(1, 6, 0);
        x.run(10);
        int phases = x.total(3);
        x.run(10);
        due("no more corrections", x.total(3), phases);
        x.adjust(1, 0, 1);
        x.run(10);
        due("1 is outside a band of 0", x.total(3) > phases ? 1 : 0, 1);
    }

    private static void windowsAfterMisses() {
        PrintRegister x = new PrintRegister();
        x.setUp(2);
        x.set(1, 3, 2);
        x.set(1, 2, 100);
        x.adjust(1, 0, 400);
        x.run(9);
        due("400 is outside of 100", x.seen(1, 4), 0);
        due("misses 1", x.state(1, 6), 1);
        due("expected error stays", x.state(1, 8), 0);
        x.run(1);
        due("still", x.seen(1, 4), 0);
        due("misses 2", x.state(1, 6), 2);
        x.run(1);
        due("400 is inside of 4 * 100", x.seen(1, 4), 1);
        due("misses 0", x.state(1, 6), 0);
        due("all misses", x.total(2), 2);
        x = new PrintRegister();
        x.setUp(2);
        x.set(1, 3, 1);
        x.set(1, 2, 100);
        x.adjust(1, 0, -401);
        x.run(20);
        due("401 is never recognized", x.total(0), 0);
        due("all missed", x.total(2), 12);
    }

    private static void seen() {
        promise = 13;
        PrintRegister x = new PrintRegister();
        for (int what = 0; what < 7; what++) due("at time 0", x.seen(1, what), Check.NOT_POSSIBLE);
        for (int bad : new int[] {MIN, -1, 7, MAX}) due("what", x.seen(0, bad), Check.BAD_VALUE);
        for (int bad : new int[] {MIN, -1, 3, MAX}) due("unit", x.seen(bad, 9), Check.NO_SUCH);
        x.adjust(1, 0, 120);
        x.adjust(1, 1, 30);
        x.adjust(1, 2, 40);
        x.run(8);
        for (int u = 0; u < 3; u++) {
            due("offset", x.seen(u, 0), u == 1 ? 120 : 0);
            due("skew", x.seen(u, 1), u == 1 ? 70 : 0);
            for (int what = 2; what < 7; what++) due("nothing seen", x.seen(u, what), Check.NONE);
        }
        x.run(1);
        int[] want = {120, 70, 120, 70, 1, 120, 70};
        for (int what = 0; what < 7; what++) due("seen(1, " + what + ")", x.seen(1, what), want[what]);
        due("the farther unit", x.seen(2, 2), Check.NONE);
        x.adjust(1, 0, 5);
        due("what was printed stays", x.seen(1, 0), 120);
        x.hide(1, 1);
        x.run(1);
        due("true error", x.seen(1, 2), 120);
        due("true skew", x.seen(1, 3), 70);
        due("nothing recognized", x.seen(1, 4), 0);
        due("no m", x.seen(1, 5), Check.NONE);
        due("no skew", x.seen(1, 6), Check.NONE);
        x.run(4);
        due("unit 2 sees", x.seen(2, 4), 1);
        for (int what = 2; what < 7; what++) due("unit 0 sees nothing", x.seen(0, what), Check.NONE);
        // The longest way: what unit 0 printed 90 repeats ago.
        x.setUp(5);
        for (int u = 1; u < 5; u++) x.set(u, 0, 20);
        x.set(4, 1, 10);
        x.disturb(0, 1234, 1);
        x.run(90);
        due("not yet", x.seen(4, 2), Check.NONE);
        x.run(1);
        due("the first piece", x.seen(4, 2), -1234);
        x.run(1);
        due("the next piece", x.seen(4, 2), 0);
    }

    private static void state() {
        promise = 14;
        PrintRegister x = new PrintRegister();
        for (int bad : new int[] {MIN, -1, 14, MAX}) due("what", x.state(1, bad), Check.BAD_VALUE);
        for (int bad : new int[] {MIN, -1, 3, MAX}) due("unit", x.state(bad, 14), Check.NO_SUCH);
        x.set(0, 0, 20);
        x.set(1, 0, 7);
        x.set(2, 0, 9);
        due("way of 0", x.state(0, 13), 0);
        due("way of 1", x.state(1, 13), 7);
        due("way of 2", x.state(2, 13), 16);
        x.adjust(1, 0, 200);
        x.adjust(1, 1, -9);
        x.adjust(1, 2, 99);
        x.disturb(1, 0, 40);
        x.run(8);
        x.hide(1, 20);
        x.falseMark(1, 200, 10);
        x.run(3);
        // The first piece is seen in repeat 10: hidden, and its false mark at 200, which is just in the window.
        int[] want = {88, -9, 99, 0, 200, 3, 0, 0, 200, 0, 29, 17, 7, 7};
        for (int what = 0; what < want.length; what++) due("state(1, " + what + ")", x.state(1, what), want[what]);
        x.run(3);
        due("expected error behind the wait", x.state(1, 8), 88);
    }

    private static void errors() {
        promise = 15;
        PrintRegister x = new PrintRegister();
        due("no errors yet", x.errors(1, 60, 2), 0);
        for (int bad : new int[] {MIN, -1, 0, 3, MAX}) due("unit", x.errors(bad, 0, 9), Check.NO_SUCH);
        for (int bad : new int[] {MIN, -1, 0, 61, MAX}) due("n", x.errors(1, bad, 0), Check.BAD_VALUE);
        for (int bad : new int[] {MIN, -1, 4, MAX}) due("what", x.errors(1, 1, bad), Check.BAD_VALUE);
        x.setUp(2);
        x.set(1, 4, 0);
        x.set(1, 5, 0);
        x.run(5);
        // Errors from the time 8 on: 0 twice, then -40 * (20 - i) / 20 = -40 + 2 * i, not recognized in between.
        x.run(2);
        x.disturb(1, -40, 20);
        x.run(4);
        due("how many", x.errors(1, 60, 2), 3);
        due("of 2", x.errors(1, 2, 2), 2);
        due("greatest", x.errors(1, 60, 0), 40);
        due("greatest of 1", x.errors(1, 1, 0), 40);
        x.hide(1, 5);
        x.run(5);
        due("sum", x.errors(1, 60, 1), 40 + 38 + 36 + 34 + 32 + 30);
        due("sum of 3", x.errors(1, 3, 1), 34 + 32 + 30);
        due("greatest of 3", x.errors(1, 3, 0), 34);
        x.set(1, 6, 34);
        due("more than BAND", x.errors(1, 60, 3), 3);
        due("more than BAND of 4", x.errors(1, 4, 3), 1);
        due("more than BAND of 3", x.errors(1, 3, 3), 0);
        x.run(49);
        due("how many", x.errors(1, 60, 2), 57);
        due("the first ones are there", x.errors(1, 60, 0), 40);
        x.run(5);
        due("60 at most", x.errors(1, 60, 2), 60);
        due("-40 is still among 60", x.errors(1, 60, 0), 40);
        due("but not among 59", x.errors(1, 59, 0), 38);
        x.run(1);
        due("60 are kept, no more", x.errors(1, 60, 0), 38);
        due("sum", x.errors(1, 60, 1), 420 - 40);
    }

    private static void total() {
        promise = 16;
        PrintRegister x = new PrintRegister();
        for (int bad : new int[] {MIN, -1, 6, MAX}) due("what", x.total(bad), Check.BAD_VALUE);
        x.run(13);
        due("unit 1 from 8 on, unit 2 from 13 on", x.total(0), 5);
        x.run(1);
        due("both", x.total(0), 7);
        x.hide(1, 2);
        x.hide(2, 1);
        x.falseMark(2, 10, 1);
        x.run(2);
        due("recognized", x.total(0), 9);
        due("false", x.total(1), 1);
        due("missed", x.total(2), 2);
        due("phases", x.total(3), 1);
        due("skews", x.total(4), 0);
        due("feeds", x.total(5), 0);
        x.adjust(1, 2, 10);
        x.adjust(2, 2, 10);
        x.speed(10);
        x.run(4);
        due("skews then", x.total(4), 2);
        due("feeds then", x.total(5), 2);
    }

    private static void forecast() {
        promise = 17;
        PrintRegister x = new PrintRegister();
        for (int bad : new int[] {MIN, -1, 0, 3, MAX}) due("unit", x.forecast(bad, -1, 0), Check.NO_SUCH);
        for (int bad : new int[] {MIN, -1, 1001, MAX}) due("band", x.forecast(1, bad, 50), Check.BAD_VALUE);
        for (int bad : new int[] {MIN, -1, 4, 301, MAX}) due("most", x.forecast(1, 5, bad), Check.BAD_VALUE);
        due("before anything is seen", x.forecast(1, 0, 300), 8);
        due("just enough", x.forecast(1, 0, 13), 8);
        due("not enough", x.forecast(1, 0, 12), Check.NONE);
        due("unit 2", x.forecast(2, 1000, 18), 13);
        x.run(9);
        due("at once", x.forecast(1, 0, 5), 0);
        x.disturb(1, 100, 10);
        x.set(1, 4, 0);
        x.set(1, 5, 0);
        // Seen from the fourth repeat on: 100, 90, .., 10, 0: but three good ones before it are not enough.
        due("100 to 60 are within 100", x.forecast(1, 100, 50), 0);
        due("90 and less", x.forecast(1, 90, 50), 4);
        due("50 and less", x.forecast(1, 50, 50), 8);
        due("0", x.forecast(1, 0, 18), 13);
        due("0 within 17", x.forecast(1, 0, 17), Check.NONE);
        due("nothing has happened", x.count(0), 9);
        due("the disturbance stays", x.state(1, 10), 10);
        // A splice that is under way comes in the copy, too.
        x.setUp(2);
        x.run(30);
        x.splice(1000, 1);
        due("the splice is on the same piece", x.forecast(1, 0, 300), 0);
    }

    private static void attempt() {
        promise = 18;
        PrintRegister x = new PrintRegister();
        for (int bad : new int[] {MIN, -1, 0, 3, MAX}) due("unit", x.attempt(bad, 0, 0, 0), Check.NO_SUCH);
        for (int bad : new int[] {MIN, -1, 0, 1, 11, MAX}) due("setting", x.attempt(1, bad, 5, 1), Check.BAD_VALUE);
        for (int bad : new int[] {MIN, -1, 0, 301, MAX}) due("n", x.attempt(1, 4, 0, bad), Check.BAD_VALUE);
        for (int i = 2; i < 11; i++) {
            due("too small", x.attempt(1, i, LEAST[i] - 1, 1), Check.BAD_VALUE);
            due("too great", x.attempt(1, i, GREATEST[i] + 1, 1), Check.BAD_VALUE);
            due("least", x.attempt(1, i, LEAST[i], 1), 0);
            due("greatest", x.attempt(1, i, GREATEST[i], 1), 0);
        }
        x.adjust(1, 0, -200);
        x.set(1, 5, 0);
        due("nothing is seen in 8", x.attempt(1, 4, 0, 8), 0);
        due("no gain", x.attempt(1, 4, 0, 20), 12 * 200);
        due("half of it", x.attempt(1, 4, 128, 20), 4 * (200 + 100 + 50));
        due("all of it", x.attempt(1, 4, 256, 300), 4 * 200);
        due("too small a window", x.attempt(1, 2, 49, 20), 12 * 200);
        due("the setting stays", x.get(1, 4), 128);
        due("the window stays", x.get(1, 2), 200);
        due("the time stays", x.count(0), 0);
        due("the totals stay", x.total(0), 0);
    }

    private static void bestGain() {
        promise = 19;
        PrintRegister x = new PrintRegister();
        for (int bad : new int[] {MIN, -1, 0, 3, MAX}) due("unit", x.bestGain(bad, -1, 0, 0, 0), Check.NO_SUCH);
        for (int bad : new int[] {MIN, -1, 257, MAX}) due("first", x.bestGain(1, bad, 1, 1, 1), Check.BAD_VALUE);
        for (int bad : new int[] {MIN, -1, 0, 129, MAX}) due("step", x.bestGain(1, 0, bad, 1, 1), Check.BAD_VALUE);
        for (int bad : new int[] {MIN, -1, 0, 9, MAX}) due("count", x.bestGain(1, 0, 1, bad, 1), Check.BAD_VALUE);
        for (int bad : new int[] {MIN, -1, 0, 301, MAX}) due("n", x.bestGain(1, 0, 1, 1, bad), Check.BAD_VALUE);
        due("last gain too great", x.bestGain(1, 129, 128, 2, 1), Check.BAD_VALUE);
        due("last of 8 just right", x.bestGain(1, 4, 36, 8, 1), 4);
        due("last gain just right", x.bestGain(1, 128, 128, 2, 1), 128);
        due("last of 8", x.bestGain(1, 1, 37, 8, 1), Check.BAD_VALUE);
        x.adjust(1, 0, 200);
        x.set(1, 5, 0);
        due("all equal: the least", x.bestGain(1, 40, 20, 5, 12), 40);
        due("the last one", x.bestGain(1, 0, 64, 5, 60), 256);
        due("only one", x.bestGain(1, 256, 128, 1, 60), 256);
        due("the gain stays", x.get(1, 4), 128);
        due("the time stays", x.count(0), 0);
        x.set(1, 7, 50);
        due("all limited by STEP: the least of the best", x.bestGain(1, 64, 64, 4, 13), 64);
    }

    private static void put() {
        promise = 20;
        PrintRegister x = new PrintRegister();
        due("no character", x.put(0), Check.BAD_VALUE);
        due("one", x.put('n'), 1);
        due("eight", x.put(Check.packed("1,n2,n3,")), 9);
        due("below 33", x.put(32), Check.BAD_VALUE);
        due("above 126", x.put(127), Check.BAD_VALUE);
        due("128", x.put(128), Check.BAD_VALUE);
        due("255", x.put(255), Check.BAD_VALUE);
        due("-1", x.put(-1), Check.BAD_VALUE);
        due("MIN", x.put(Long.MIN_VALUE), Check.BAD_VALUE);
        due("MAX", x.put(Long.MAX_VALUE), Check.BAD_VALUE);
        due("a bad one first", x.put(0x204141L), Check.BAD_VALUE);
        due("a bad one between", x.put(0x412041L), Check.BAD_VALUE);
        due("a bad eighth", x.put(0x7F41414141414141L), Check.BAD_VALUE);
        due("a gap", x.put(0x410041L), Check.BAD_VALUE);
        due("a bit above", x.put(0x0100000000000041L), Check.BAD_VALUE);
        due("the last ones are 0", x.put(0x4100L), Check.BAD_VALUE);
        due("a sign bit above", x.put(0x8000000000000041L), Check.BAD_VALUE);
        due("errors change nothing", x.count(4), 9);
        due("33", x.put(33), 10);
        due("126", x.put(126), 11);
        x.wipe();
        for (int i = 1; i <= 9; i++) due("full", x.put(Check.packed("n1,n2,n3")), 8L * i);
        due("79", x.put(Check.packed("1234567")), 79);
        due("81", x.put(Check.packed("nn")), Check.TOO_MANY);
        due("a bad value comes first", x.put(32), Check.BAD_VALUE);
        due("80", x.put('n'), 80);
        due("81", x.put('n'), Check.TOO_MANY);
        x.wipe();
        x.put(Check.packed("n12"));
        x.put(Check.packed(",n1"));
        due("in their order", x.carryOut(), 13);
    }

    private static void wipe() {
        promise = 21;
        PrintRegister x = new PrintRegister();
        due("empty", x.wipe(), 0);
        Check.putText(x, "n12,v");
        due("wipe()", x.wipe(), 5);
        due("empty then", x.count(4), 0);
        due("wipe() again", x.wipe(), 0);
        Check.putText(x, "n1");
        due("nothing is left of it", x.fault(), Check.NONE);
    }

    private static void fault() {
        promise = 22;
        String[] right = {"n1", "n99", "n9,n10", "v0", "v1000", "v999", "d0:0/1", "d4:-0/50", "d1:3000/9", "d2:-3000/49",
            "p0/1", "p-1/10", "p3000/50", "p-299/5,v10,d3:2999/50,n1"};
        for (String text : right) dueFault(text, Check.NONE);
        dueFault("", 0);
        dueFault("n", 1);
        dueFault("N1", 0);
        dueFault("x", 0);
        dueFault(",n1", 0);
        dueFault("1", 0);
        dueFault("n0", 1);
        dueFault("n100", 3);
        dueFault("n99x", 3);
        dueFault("n-1", 1);
        dueFault("n1,", 3);
        dueFault("n1,,", 3);
        dueFault("n1n2", 2);
        dueFault("n1;", 2);
        dueFault("n01", 1);
        dueFault("v00", 2);
        dueFault("v1001", 4);
        dueFault("v10000", 5);
        dueFault("v2000", 4);
        dueFault("v-1", 1);
        dueFault("d", 1);
        dueFault("d5", 1);
        dueFault("d4", 2);
        dueFault("d44", 2);
        dueFault("d4:", 3);
        dueFault("d4:/", 3);
        dueFault("d4:-", 4);
        dueFault("d4:--1", 4);
        dueFault("d4:-/", 4);
        dueFault("d4:-01", 5);
        dueFault("d4:01", 4);
        dueFault("d4:3001/5", 6);
        dueFault("d4:30000", 7);
        dueFault("d4:3000", 7);
        dueFault("d4:3000,", 7);
        dueFault("d4:3000/", 8);
        dueFault("d4:3000/0", 8);
        dueFault("d4:3000/51", 9);
        dueFault("d4:3000/500", 10);
        dueFault("d4:3000/-1", 8);
        dueFault("d4:3000/6,d9", 11);
        dueFault("d:", 1);
        dueFault("p", 1);
        dueFault("p/", 1);
        dueFault("p-", 2);
        dueFault("p1:", 2);
        dueFault("p1/", 3);
        dueFault("p-3000/5,p3001/5", 13);
        dueFault("n1/", 2);
        dueFault("n1,n1,n1,n1,n1,n1,n1,n1,n1,n1,n1,n1,n1,n1,n1,n1,n1,n1,n1,n1,n1,n1,n1,n1,n1,n1,n9", Check.NONE);
        dueFault("n1,n1,n1,n1,n1,n1,n1,n1,n1,n1,n1,n1,n1,n1,n1,n1,n1,n1,n1,n1,n1,n1,n1,n1,n1,n10,n", 80);
    }

    private static void dueFault(String text, int want) {
        PrintRegister x = new PrintRegister();
        Check.putText(x, text);
        due("fault of " + text, x.fault(), want);
        due("fault() keeps the pad", x.count(4), text.length());
        if (want != Check.NONE) due("carryOut of " + text, x.carryOut(), Check.BAD_TEXT);
    }

    private static void carryOut() {
        promise = 23;
        PrintRegister x = new PrintRegister();
        Check.putText(x, "v250,n2,d0:-90/3,d2:3000/50,n1,p-500/5,n7,v0");
        due("carryOut()", x.carryOut(), 10);
        due("time", x.count(0), 10);
        due("speed", x.count(2), 0);
        due("disturbance", x.state(2, 10), 42);
        due("splice", x.count(3), 4);
        due("ready", x.state(1, 7), 9);
        due("the pad is empty", x.count(4), 0);
        due("carryOut() of nothing", x.carryOut(), Check.BAD_TEXT);
        Check.putText(x, "v5");
        due("no repeats", x.carryOut(), 0);
        Check.putText(x, "v6,d3:1/1");
        due("no such unit", x.carryOut(), Check.NO_SUCH);
        due("nothing was done", x.count(2), 5);
        due("the pad stays", x.count(4), 9);
        Check.putText(x, ",");
        due("bad text first", x.carryOut(), Check.BAD_TEXT);
        x.wipe();
        Check.putText(x, "d2:-0/7,n1");
        due("-0 is 0", x.carryOut(), 1);
        due("-0 lasts, too", x.state(2, 10), 6);
        Check.putText(x, "p-300/3,n1");
        x.carryOut();
        due("the amount has its sign", x.seen(0, 0), -300);
        StringBuilder many = new StringBuilder("n98");
        for (int i = 0; i < 19; i++) many.append(",n99");
        x = new PrintRegister();
        for (int i = 0; i < 326; i++) x.run(300);
        x.run(221);
        x.save(0);
        Check.putText(x, many.toString());
        due("many", x.carryOut(), 98 + 19 * 99);
        due("time", x.count(0), 100000);
        x.restore(0);
        x.run(1);
        Check.putText(x, many.toString());
        due("too late", x.carryOut(), Check.NOT_POSSIBLE);
        due("the pad stays", x.wipe(), 79);
        x = new PrintRegister();
        for (int i = 0; i < 333; i++) x.run(300);
        Check.putText(x, "n50,n51");
        due("101 are too many", x.carryOut(), Check.NOT_POSSIBLE);
        due("time stays", x.count(0), 99900);
        Check.putText(x, ",d4:1/1");
        due("no such unit comes first", x.carryOut(), Check.NO_SUCH);
        x.wipe();
        Check.putText(x, "n50,n50");
        due("100 are not", x.carryOut(), 100);
        due("time", x.count(0), 100000);
    }

    private static void count() {
        promise = 24;
        PrintRegister x = new PrintRegister();
        for (int bad : new int[] {MIN, -1, 5, MAX}) due("what", x.count(bad), Check.BAD_VALUE);
        x.setUp(4);
        x.speed(321);
        x.run(17);
        due("splice", x.splice(1, 1), 16);
        x.run(3);
        Check.putText(x, "n1");
        int[] want = {20, 4, 321, 13, 2};
        for (int what = 0; what < 5; what++) due("count(" + what + ")", x.count(what), want[what]);
        x.run(13);
        due("it has come", x.count(3), 0);
        due("in this repeat", x.state(3, 7), 10);
        x.run(1);
        due("and is over", x.count(3), 0);
    }

    private static void save() {
        promise = 25;
        PrintRegister x = new PrintRegister();
        for (int bad : new int[] {MIN, -1, 2, MAX}) due("slot", x.save(bad), Check.BAD_VALUE);
        x.run(3);
        due("save(0)", x.save(0), 3);
        due("the other slot is empty", x.restore(1), Check.NOT_POSSIBLE);
        x.run(4);
        due("save(1)", x.save(1), 7);
        x.run(1);
        due("restore(0)", x.restore(0), 3);
        due("restore(1)", x.restore(1), 7);
        due("save(0) again", x.save(0), 7);
        x.run(1);
        due("overwritten", x.restore(0), 7);
    }

    private static void restore() {
        promise = 26;
        PrintRegister x = worked();
        for (int bad : new int[] {MIN, -1, 2, MAX}) due("slot", x.restore(bad), Check.BAD_VALUE);
        due("nothing saved", x.restore(0), Check.NOT_POSSIBLE);
        x.save(0);
        PrintRegister same = worked();
        x.wipe();
        x.setUp(2);
        x.adjust(1, 0, 77);
        x.run(60);
        Check.putText(x, "abc");
        due("restore(0)", x.restore(0), 35);
        due("not the pad", x.count(4), 3);
        dueSame(x, same);
        for (int i = 0; i < 20; i++) {
            x.run(1);
            same.run(1);
            int u = i % 5;
            for (int what : new int[] {0, 3, 4, 8}) due("state", x.state(u, what), same.state(u, what));
            for (int what = 0; what < 3; what++) due("seen", x.seen(u, what), same.seen(u, what));
        }
        due("the slot keeps it", x.restore(0), 35);
        due("time", x.count(0), 35);
        due("units", x.count(1), 5);
    }

    /** All that can be asked now: 190 calls. */
    private static void dueSame(PrintRegister x, PrintRegister y) {
        for (int what = 0; what < 4; what++) due("count", x.count(what), y.count(what));
        for (int what = 0; what < 6; what++) due("total", x.total(what), y.total(what));
        for (int u = 0; u < 5; u++) {
            for (int what = 0; what < 11; what++) due("get", x.get(u, what), y.get(u, what));
            for (int what = 0; what < 14; what++) due("state", x.state(u, what), y.state(u, what));
            for (int what = 0; what < 7; what++) due("seen", x.seen(u, what), y.seen(u, what));
            for (int what = 0; what < 4; what++) due("errors", x.errors(u, 60, what), y.errors(u, 60, what));
        }
    }
}
