import java.util.stream.IntStream;

/**
 * "A call that returns an error changes nothing", and "the first one that applies is returned": every error of every
 * method, alone and with those behind it, in three worlds.
 */
public final class RefusalsTest {
    private static final int MIN = Integer.MIN_VALUE;
    private static final int MAX = Integer.MAX_VALUE;
    private static final int[] LEAST = {1, 1, 5, 1, 0, 0, 0, 1, 0, 0, -500};
    private static final int[] GREATEST = {20, 10, 2000, 20, 256, 256, 500, 2000, 256, 30, 500};
    private static final int[] MOST_BY_HAND = {5000, 3000, 2000};

    private static World w;

    public static void main(String[] args) {
        theWorldsAreInMotion();
        for (World world : World.ALL) {
            w = world;
            noSuchUnit();
            unitsAndSettings();
            happenings();
            questions();
            copies();
            pads();
            slots();
            noError();
        }
        notPossible();
        Check.end("RefusalsTest");
    }

    /** Numbers outside of a range: its neighbours, the ends of int, and what narrower numbers would take for inside. */
    private static int[] outside(int least, int greatest) {
        return IntStream.of(MIN, MIN + 1, least - 65536, least - 256, least - 1, greatest + 1, least + 256, greatest + 256,
            least + 65536, MAX - 1, MAX).filter(v -> v < least || v > greatest).distinct().toArray();
    }

    private static int[] noUnits() {
        return outside(0, w.units - 1);
    }

    private static void noSuch(String what, World.Call call) {
        w.refuses(what, Check.NO_SUCH, call);
    }

    private static void bad(String what, World.Call call) {
        w.refuses(what, Check.BAD_VALUE, call);
    }

    /** What would be the same behind a change is no test of "changes nothing". */
    private static void theWorldsAreInMotion() {
        PrintRegister x = World.BUSY.made();
        for (int what = 0; what < 13; what++) {
            boolean moved = false;
            for (int u = 0; u < 5; u++) moved |= x.state(u, what) != 0;
            Check.dueTrue("busy: some unit has a state " + what, moved);
        }
        for (int what = 0; what < 5; what++) Check.dueTrue("busy: a count " + what, x.count(what) > 0);
        for (int what = 0; what < 6; what++) Check.dueTrue("busy: a total " + what, x.total(what) > 0);
        x = World.LAST.made();
        Check.due("last: time", x.count(0), 100000);
        Check.due("last: the splice is under way", x.count(3), 4);
        Check.due("last: the pad is full", x.count(4), 80);
        Check.due("last: the text has no fault", x.fault(), Check.NONE);
    }

    /** NO_SUCH is the first error of all that it is named in: each call with good arguments, and with bad ones. */
    private static void noSuchUnit() {
        for (int u : noUnits()) {
            noSuch("set(" + u + ")", x -> x.set(u, 2, 200));
            noSuch("set(" + u + "), no such setting", x -> x.set(u, 11, 200));
            noSuch("set(" + u + "), a bad value", x -> x.set(u, 0, 21));
            noSuch("set(" + u + "), later", x -> x.set(u, 0, 5));
            noSuch("get(" + u + ")", x -> x.get(u, 0));
            noSuch("get(" + u + "), no such setting", x -> x.get(u, -1));
            noSuch("adjust(" + u + ")", x -> x.adjust(u, 0, 7));
            noSuch("adjust(" + u + "), no such thing", x -> x.adjust(u, 3, 7));
            noSuch("adjust(" + u + "), a bad value", x -> x.adjust(u, 2, 2001));
            noSuch("restart(" + u + ")", x -> x.restart(u));
            noSuch("disturb(" + u + ")", x -> x.disturb(u, 1, 1));
            noSuch("disturb(" + u + "), a bad amount", x -> x.disturb(u, 3001, 1));
            noSuch("disturb(" + u + "), a bad duration", x -> x.disturb(u, 1, 0));
            noSuch("hide(" + u + ")", x -> x.hide(u, 9));
            noSuch("hide(" + u + "), bad repeats", x -> x.hide(u, 51));
            noSuch("falseMark(" + u + ")", x -> x.falseMark(u, 9, 9));
            noSuch("falseMark(" + u + "), a bad offset", x -> x.falseMark(u, -3001, 9));
            noSuch("falseMark(" + u + "), bad repeats", x -> x.falseMark(u, 9, -1));
            noSuch("seen(" + u + ")", x -> x.seen(u, 0));
            noSuch("seen(" + u + "), nothing seen", x -> x.seen(u, 2));
            noSuch("seen(" + u + "), a bad what", x -> x.seen(u, 7));
            noSuch("state(" + u + ")", x -> x.state(u, 0));
            noSuch("state(" + u + "), a way", x -> x.state(u, 13));
            noSuch("state(" + u + "), a bad what", x -> x.state(u, 14));
            noSuchControlledUnit(u);
        }
        noSuchControlledUnit(0);
    }

    private static void noSuchControlledUnit(int u) {
        noSuch("errors(" + u + ")", x -> x.errors(u, 60, 0));
        noSuch("errors(" + u + "), a bad n", x -> x.errors(u, 0, 0));
        noSuch("errors(" + u + "), a bad what", x -> x.errors(u, 60, 4));
        noSuch("forecast(" + u + ")", x -> x.forecast(u, 5, 20));
        noSuch("forecast(" + u + "), a bad band", x -> x.forecast(u, 1001, 20));
        noSuch("forecast(" + u + "), a bad most", x -> x.forecast(u, 5, 4));
        noSuch("forecast(" + u + "), no 5 such ones", x -> x.forecast(u, 0, 5));
        noSuch("attempt(" + u + ")", x -> x.attempt(u, 4, 5, 20));
        noSuch("attempt(" + u + "), DISTANCE", x -> x.attempt(u, 0, 5, 20));
        noSuch("attempt(" + u + "), a bad value", x -> x.attempt(u, 4, 257, 20));
        noSuch("attempt(" + u + "), a bad n", x -> x.attempt(u, 4, 5, 0));
        noSuch("bestGain(" + u + ")", x -> x.bestGain(u, 0, 16, 8, 20));
        noSuch("bestGain(" + u + "), a bad first", x -> x.bestGain(u, -1, 16, 8, 20));
        noSuch("bestGain(" + u + "), a bad step", x -> x.bestGain(u, 0, 0, 8, 20));
        noSuch("bestGain(" + u + "), a bad count", x -> x.bestGain(u, 0, 16, 9, 20));
        noSuch("bestGain(" + u + "), a bad n", x -> x.bestGain(u, 0, 16, 8, 301));
        noSuch("bestGain(" + u + "), too great a last one", x -> x.bestGain(u, 249, 8, 2, 20));
    }

    private static void unitsAndSettings() {
        for (int units : outside(2, 5)) bad("setUp(" + units + ")", x -> x.setUp(units));
        for (int u : new int[] {0, w.units - 1}) {
            for (int i = 0; i < 11; i++) {
                int setting = i;
                for (int v : outside(LEAST[i], GREATEST[i])) {
                    bad("set(" + u + ", " + i + ", " + v + ")", x -> x.set(u, setting, v));
                }
            }
            for (int setting : outside(0, 10)) {
                bad("set(" + u + ", " + setting + ")", x -> x.set(u, setting, 5));
                bad("set(" + u + ", " + setting + "), a bad value", x -> x.set(u, setting, setting));
                bad("get(" + u + ", " + setting + ")", x -> x.get(u, setting));
            }
            for (int i = 0; i < 3; i++) {
                int what = i;
                for (int v : outside(-MOST_BY_HAND[i], MOST_BY_HAND[i])) {
                    bad("adjust(" + u + ", " + i + ", " + v + ")", x -> x.adjust(u, what, v));
                }
            }
            for (int what : outside(0, 2)) {
                bad("adjust(" + u + ", " + what + ")", x -> x.adjust(u, what, 0));
                bad("adjust(" + u + ", " + what + "), a bad value", x -> x.adjust(u, what, MIN));
            }
        }
    }

    private static void happenings() {
        for (int v : outside(0, 1000)) bad("speed(" + v + ")", x -> x.speed(v));
        for (int n : outside(1, 300)) bad("run(" + n + ")", x -> x.run(n));
        for (int v : outside(-3000, 3000)) {
            bad("splice(" + v + ", 5)", x -> x.splice(v, 5));
            bad("splice(" + v + ", 0)", x -> x.splice(v, 0));
        }
        for (int v : outside(1, 50)) bad("splice(5, " + v + ")", x -> x.splice(5, v));
        for (int u : new int[] {0, w.units - 1}) {
            for (int v : outside(-3000, 3000)) {
                bad("disturb(" + u + ", " + v + ", 5)", x -> x.disturb(u, v, 5));
                bad("disturb(" + u + ", " + v + ", " + v + ")", x -> x.disturb(u, v, v));
                bad("falseMark(" + u + ", " + v + ", 5)", x -> x.falseMark(u, v, 5));
                bad("falseMark(" + u + ", " + v + ", 0)", x -> x.falseMark(u, v, 0));
                bad("falseMark(" + u + ", " + v + ", " + v + ")", x -> x.falseMark(u, v, v));
            }
            for (int v : outside(1, 50)) bad("disturb(" + u + ", 5, " + v + ")", x -> x.disturb(u, 5, v));
            for (int v : outside(0, 50)) {
                bad("hide(" + u + ", " + v + ")", x -> x.hide(u, v));
                bad("falseMark(" + u + ", 5, " + v + ")", x -> x.falseMark(u, 5, v));
            }
        }
    }

    private static void questions() {
        for (int u : new int[] {0, w.units - 1}) {
            for (int v : outside(0, 6)) bad("seen(" + u + ", " + v + ")", x -> x.seen(u, v));
            for (int v : outside(0, 13)) bad("state(" + u + ", " + v + ")", x -> x.state(u, v));
        }
        int last = w.units - 1;
        for (int v : outside(1, 60)) {
            bad("errors(" + last + ", " + v + ", 0)", x -> x.errors(last, v, 0));
            bad("errors(" + last + ", " + v + ", 4)", x -> x.errors(last, v, 4));
        }
        for (int v : outside(0, 3)) bad("errors(" + last + ", 60, " + v + ")", x -> x.errors(last, 60, v));
        for (int v : outside(0, 5)) bad("total(" + v + ")", x -> x.total(v));
        for (int v : outside(0, 4)) bad("count(" + v + ")", x -> x.count(v));
    }

    private static void copies() {
        int u = w.units - 1;
        for (int v : outside(0, 1000)) {
            bad("forecast(.., " + v + ", 20)", x -> x.forecast(u, v, 20));
            bad("forecast(.., " + v + ", " + v + ")", x -> x.forecast(u, v, v));
        }
        for (int v : outside(5, 300)) bad("forecast(.., 5, " + v + ")", x -> x.forecast(u, 5, v));
        for (int setting : outside(2, 10)) {
            bad("attempt(.., " + setting + ", 5, 20)", x -> x.attempt(u, setting, 5, 20));
            bad("attempt(.., " + setting + ", 5, 0)", x -> x.attempt(u, setting, 5, 0));
            bad("attempt(.., " + setting + ", 9999, 20)", x -> x.attempt(u, setting, 9999, 20));
        }
        for (int i = 2; i < 11; i++) {
            int setting = i;
            for (int v : outside(LEAST[i], GREATEST[i])) {
                bad("attempt(.., " + i + ", " + v + ", 20)", x -> x.attempt(u, setting, v, 20));
                bad("attempt(.., " + i + ", " + v + ", 301)", x -> x.attempt(u, setting, v, 301));
            }
        }
        for (int n : outside(1, 300)) {
            bad("attempt(.., 4, 0, " + n + ")", x -> x.attempt(u, 4, 0, n));
            bad("bestGain(.., 0, 1, 8, " + n + ")", x -> x.bestGain(u, 0, 1, 8, n));
        }
        for (int v : outside(0, 256)) bad("bestGain(.., " + v + ", 1, 1, 20)", x -> x.bestGain(u, v, 1, 1, 20));
        for (int v : outside(1, 128)) {
            bad("bestGain(.., 0, " + v + ", 1, 20)", x -> x.bestGain(u, 0, v, 1, 20));
            bad("bestGain(.., 0, " + v + ", 2, 20)", x -> x.bestGain(u, 0, v, 2, 20));
        }
        for (int v : outside(1, 8)) bad("bestGain(.., 0, 1, " + v + ", 20)", x -> x.bestGain(u, 0, 1, v, 20));
        lastGains(u);
    }

    /** first + step * (count - 1), which int would wrap to a gain that is one. */
    private static void lastGains(int u) {
        bad("first + step is 257", x -> x.bestGain(u, 256, 1, 2, 20));
        bad("first + step is 257", x -> x.bestGain(u, 129, 128, 2, 20));
        bad("first + 7 * step is 257", x -> x.bestGain(u, 5, 36, 8, 20));
        bad("first + 2 * step is 258", x -> x.bestGain(u, 2, 128, 3, 20));
        bad("7 * step wraps to 3", x -> x.bestGain(u, 0, 613566757, 8, 20));
        bad("2 * step wraps to 0", x -> x.bestGain(u, 0, MIN, 3, 20));
        bad("first + step wraps to 0", x -> x.bestGain(u, 256, -256, 2, 20));
        bad("first + step wraps to 10", x -> x.bestGain(u, MAX, MIN + 11, 2, 20));
        bad("2 * (count - 1) wraps to 0", x -> x.bestGain(u, 0, 2, MIN + 1, 20));
        bad("128 * (count - 1) wraps to 0", x -> x.bestGain(u, 0, 128, 33554433, 20));
        bad("nothing is right", x -> x.bestGain(u, MAX, MAX, MAX, MAX));
        bad("nothing is right", x -> x.bestGain(u, MIN, MIN, MIN, MIN));
    }

    private static void pads() {
        bad("put nothing", x -> x.put(0));
        bad("put 32", x -> x.put(32));
        bad("put 127", x -> x.put(127));
        bad("put a gap", x -> x.put(0x6E0031L));
        bad("put 0 behind a character", x -> x.put(0x6E00L));
        bad("put -1", x -> x.put(-1L));
        bad("put the least long", x -> x.put(Long.MIN_VALUE));
        bad("put the greatest long", x -> x.put(Long.MAX_VALUE));
        bad("put a bad one among good ones", x -> x.put(0x6E31206E316E31L));
        if (w == World.FRESH) {
            w.refuses("carryOut() of nothing", Check.BAD_TEXT, x -> x.carryOut());
            w.answers("the fault of nothing", 0, x -> x.fault());
        }
        if (w == World.LAST) {
            w.refuses("put one more", Check.TOO_MANY, x -> x.put('n'));
            w.refuses("put eight more", Check.TOO_MANY, x -> x.put(Check.packed(",n1,n1,n")));
        }
    }

    private static void slots() {
        for (int v : outside(0, 1)) {
            bad("save(" + v + ")", x -> x.save(v));
            bad("restore(" + v + ")", x -> x.restore(v));
        }
        if (w != World.LAST) w.refuses("restore(1)", Check.NOT_POSSIBLE, x -> x.restore(1));
        if (w == World.FRESH) w.refuses("restore(0)", Check.NOT_POSSIBLE, x -> x.restore(0));
    }

    /** Questions change nothing, either; NONE is no error, and comes only if none applies. */
    private static void noError() {
        PrintRegister y = w.made();
        int last = w.units - 1;
        for (int what = 0; what < 11; what++) {
            int i = what;
            w.answers("get", y.get(last, i), x -> x.get(last, i));
        }
        for (int what = 0; what < 14; what++) {
            int i = what;
            w.answers("state", y.state(last, i), x -> x.state(last, i));
        }
        for (int what = 0; what < 7; what++) {
            int i = what;
            w.answers("seen", y.seen(last, i), x -> x.seen(last, i));
            w.answers("seen", y.seen(0, i), x -> x.seen(0, i));
        }
        for (int what = 0; what < 4; what++) {
            int i = what;
            w.answers("errors", y.errors(last, 60, i), x -> x.errors(last, 60, i));
            w.answers("total", y.total(i), x -> x.total(i));
            w.answers("count", y.count(i), x -> x.count(i));
        }
        w.answers("fault", y.fault(), x -> x.fault());
        w.answers("forecast", y.forecast(1, 9, 300), x -> x.forecast(1, 9, 300));
        w.answers("attempt", y.attempt(1, 6, 0, 300), x -> x.attempt(1, 6, 0, 300));
        w.answers("bestGain", y.bestGain(1, 4, 36, 8, 300), x -> x.bestGain(1, 4, 36, 8, 300));
    }

    /** NOT_POSSIBLE, which comes behind every other error. */
    private static void notPossible() {
        w = World.BUSY;
        for (int u = 0; u < 5; u++) {
            int unit = u;
            for (int setting = 0; setting < 2; setting++) {
                int i = setting;
                w.refuses("set later", Check.NOT_POSSIBLE, x -> x.set(unit, i, LEAST[i]));
                w.refuses("set later", Check.NOT_POSSIBLE, x -> x.set(unit, i, GREATEST[i]));
                w.refuses("set what it is", Check.NOT_POSSIBLE, x -> x.set(unit, i, x.get(unit, i)));
            }
        }
        w = World.LAST;
        w.refuses("run(1)", Check.NOT_POSSIBLE, x -> x.run(1));
        w.refuses("run(300)", Check.NOT_POSSIBLE, x -> x.run(300));
        w.refuses("set DISTANCE", Check.NOT_POSSIBLE, x -> x.set(1, 0, 20));
        w = World.FRESH;
        for (int u = 0; u < 3; u++) {
            int unit = u;
            for (int what = 0; what < 7; what++) {
                int i = what;
                w.refuses("seen(" + u + ", " + what + ")", Check.NOT_POSSIBLE, x -> x.seen(unit, i));
            }
        }
        texts();
        timeIsTooLate();
    }

    /** BAD_TEXT before NO_SUCH before NOT_POSSIBLE; and the pad stays. */
    private static void texts() {
        dueOfText(World.BUSY, "n1,", Check.BAD_TEXT);
        dueOfText(World.BUSY, "n1,v1001", Check.BAD_TEXT);
        dueOfText(World.BUSY, "v1,d5:1/1", Check.BAD_TEXT);
        dueOfText(World.FRESH, "v1,n2,d3:1/1", Check.NO_SUCH);
        dueOfText(World.FRESH, "d4:1/1", Check.NO_SUCH);
        dueOfText(World.FRESH, "d4:1/1,v", Check.BAD_TEXT);
        dueOfText(World.LAST, "d2:1/1,v3", Check.NO_SUCH);
        dueOfText(World.LAST, "v3,n1", Check.NOT_POSSIBLE);
        dueOfText(World.LAST, "d1:1/1,p1/1,n99", Check.NOT_POSSIBLE);
        dueOfText(World.LAST, "n1,d2:1/1", Check.NO_SUCH);
        dueOfText(World.LAST, "n1,d2:1/", Check.BAD_TEXT);
        dueOfText(World.LAST, "n0", Check.BAD_TEXT);
    }

    private static void dueOfText(World world, String text, int error) {
        PrintRegister x = world.made();
        PrintRegister y = world.made();
        x.wipe();
        y.wipe();
        Check.putText(x, text);
        Check.due(world.name + ": carryOut() of " + text, x.carryOut(), error);
        Check.due(world.name + ": the pad stays", x.count(4), text.length());
        int fault = error == Check.BAD_TEXT ? x.fault() : Check.NONE;
        Check.due(world.name + ": its fault stays", x.fault(), fault);
        for (int what = 0; what < 4; what++) Check.due(text + ": a count", x.count(what), y.count(what));
        for (int u = 0; u < world.units; u++) {
            for (int what = 0; what < 14; what++) Check.due(text + ": a state", x.state(u, what), y.state(u, what));
            for (int what = 0; what < 7; what++) Check.due(text + ": what was seen", x.seen(u, what), y.seen(u, what));
        }
    }

    /** The time may become 100000, but not greater. */
    private static void timeIsTooLate() {
        for (int left : new int[] {1, 2, 99, 299}) {
            PrintRegister x = new PrintRegister();
            for (int i = 0; i < 332; i++) x.run(300);
            for (int toDo = 400 - left; toDo > 0; toDo -= 200) x.run(Math.min(toDo, 200));
            Check.due("time", x.count(0), 100000 - left);
            Check.due("run one too many", x.run(left + 1), Check.NOT_POSSIBLE);
            Check.due("run 300", x.run(300), Check.NOT_POSSIBLE);
            Check.due("run 301", x.run(301), Check.BAD_VALUE);
            Check.due("run the greatest int", x.run(MAX), Check.BAD_VALUE);
            Check.due("run the least int", x.run(MIN), Check.BAD_VALUE);
            Check.due("time stays", x.count(0), 100000 - left);
            Check.due("run what is left", x.run(left), 100000);
        }
    }
}
