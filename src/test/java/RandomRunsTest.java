import java.util.Random;

/** Runs of calls that a fixed seed chooses, each answer compared with that of Model. */
public final class RandomRunsTest {
    private static final int RUNS = 12000;
    // An object is promised for 512 calls; one of the steps of make() may need up to 130 of them.
    private static final int CALLS = 512 - 130;
    private static final int[] LEAST = {1, 1, 5, 1, 0, 0, 0, 1, 0, 0, -500};
    private static final int[] GREATEST = {20, 10, 2000, 20, 256, 256, 500, 2000, 256, 30, 500};

    private final Random random;
    private final int run;
    private final PrintRegister x = new PrintRegister();
    private final Model model = new Model();
    private int call;

    private RandomRunsTest(int run) {
        this.run = run;
        random = new Random(run);
    }

    public static void main(String[] args) {
        for (int run = 0; run < RUNS && !Check.anyWrong(); run++) new RandomRunsTest(run).make();
        Check.end("RandomRunsTest");
    }

    private void make() {
        begin();
        while (call < CALLS && !Check.anyWrong()) {
            oneCall();
            if (random.nextInt(16) == 0) compareUnit(random.nextInt(model.count(1)));
        }
    }

    /** Short ways in most runs, so that much is seen. */
    private void begin() {
        int units = 2 + random.nextInt(4);
        same("setUp(" + units + ")", x.setUp(units), model.setUp(units));
        if (random.nextInt(4) == 0) return;
        int longest = random.nextInt(8) == 0 ? 20 : 4;
        for (int u = 0; u < units; u++) {
            set(u, 0, 1 + random.nextInt(longest));
            set(u, 1, 1 + random.nextInt(random.nextInt(4) == 0 ? 10 : 3));
            for (int i = 2; i < 11; i++) {
                if (random.nextInt(3) == 0) set(u, i, LEAST[i] + random.nextInt(GREATEST[i] - LEAST[i] + 1));
            }
        }
    }

    private void same(String what, int got, int want) {
        call++;
        Check.due("run " + run + ", call " + call + ": " + what, got, want);
    }

    /** A number of the range, at times one of its ends, and seldom one outside. */
    private int from(int least, int greatest) {
        int kind = random.nextInt(60);
        if (kind == 0) return least - 1;
        if (kind == 1) return greatest + 1;
        if (kind == 2) return random.nextBoolean() ? Integer.MIN_VALUE : Integer.MAX_VALUE;
        if (kind < 6) return least;
        if (kind < 9) return greatest;
        return least + random.nextInt(greatest - least + 1);
    }

    private int unit() {
        int units = model.count(1);
        return random.nextInt(8) == 0 ? from(0, units - 1) : 1 + random.nextInt(units - 1);
    }

    /** Lengths are small at most times, so that corrections come to an end and marks come near each other. */
    private int length(int most) {
        int scale = random.nextInt(4);
        if (scale == 0) return from(-most, most);
        return random.nextInt(scale == 1 ? 41 : 401) - (scale == 1 ? 20 : 200);
    }

    private int repeats() {
        int kind = random.nextInt(12);
        if (kind == 0) return from(1, 300);
        return 1 + random.nextInt(kind < 8 ? 3 : 20);
    }

    private void set(int u, int i, int value) {
        same("set(" + u + ", " + i + ", " + value + ")", x.set(u, i, value), model.set(u, i, value));
    }

    private void oneCall() {
        int kind = random.nextInt(100);
        if (kind < 38) {
            int n = repeats();
            same("run(" + n + ")", x.run(n), model.run(n));
        } else if (kind < 62) {
            happening(random.nextInt(6));
        } else if (kind < 75) {
            change(random.nextInt(13));
        } else if (kind < 82) {
            question(random.nextInt(8));
        } else if (kind < 90) {
            text();
        } else {
            answer(random.nextInt(8));
        }
    }

    private void happening(int kind) {
        int u = unit();
        int amount = length(3000);
        int duration = from(1, 50);
        if (kind == 0) same("disturb(" + u + ", " + amount + ", " + duration + ")", x.disturb(u, amount, duration), model.disturb(u, amount, duration));
        if (kind == 1) same("splice(" + amount + ", " + duration + ")", x.splice(amount, duration), model.splice(amount, duration));
        int left = random.nextBoolean() ? from(0, 50) : random.nextInt(6);
        if (kind == 2) same("hide(" + u + ", " + left + ")", x.hide(u, left), model.hide(u, left));
        if (kind == 3) {
            int expected = model.state(u, 8);
            int offset = random.nextBoolean() || Math.abs(expected) > 3000 ? amount : expected + random.nextInt(5) - 2;
            same("falseMark(" + u + ", " + offset + ", " + left + ")", x.falseMark(u, offset, left), model.falseMark(u, offset, left));
        }
        if (kind >= 4) {
            int v = random.nextInt(3) == 0 ? from(0, 1000) : model.count(2) + random.nextInt(41) - 20;
            same("speed(" + v + ")", x.speed(v), model.speed(v));
        }
    }

    private void change(int kind) {
        int u = unit();
        if (kind < 6) {
            int i = random.nextInt(6) == 0 ? from(0, 10) : 2 + random.nextInt(9);
            set(u, i, value(i));
        } else if (kind < 10) {
            int what = from(0, 2);
            int value = length(what == 0 ? 5000 : what == 1 ? 3000 : 2000);
            same("adjust(" + u + ", " + what + ", " + value + ")", x.adjust(u, what, value), model.adjust(u, what, value));
        } else if (kind < 12) {
            same("restart(" + u + ")", x.restart(u), model.restart(u));
        } else if (random.nextInt(6) == 0) {
            int units = from(2, 5);
            same("setUp(" + units + ")", x.setUp(units), model.setUp(units));
        }
    }

    private int value(int setting) {
        if (setting < 0 || setting > 10) return 5;
        return from(LEAST[setting], GREATEST[setting]);
    }

    private void question(int kind) {
        int u = unit();
        int n = random.nextInt(4) == 0 ? from(1, 300) : 5 + random.nextInt(60);
        if (kind < 4) {
            int band = random.nextInt(3) == 0 ? from(0, 1000) : random.nextInt(30);
            same("forecast(" + u + ", " + band + ", " + n + ")", x.forecast(u, band, n), model.forecast(u, band, n));
        } else if (kind < 7) {
            int i = random.nextInt(8) == 0 ? from(0, 10) : 2 + random.nextInt(9);
            int v = value(i);
            same("attempt(" + u + ", " + i + ", " + v + ", " + n + ")", x.attempt(u, i, v, n), model.attempt(u, i, v, n));
        } else {
            int first = random.nextInt(100);
            int step = from(1, random.nextInt(6) == 0 ? 128 : 30);
            int count = from(1, 8);
            if (random.nextInt(10) == 0) first = from(0, 256);
            same("bestGain(" + u + ", " + first + ", " + step + ", " + count + ", " + n + ")",
                x.bestGain(u, first, step, count, n), model.bestGain(u, first, step, count, n));
        }
    }

    private void text() {
        String text = someText();
        for (int at = 0; at < text.length();) {
            int end = Math.min(text.length(), at + 1 + random.nextInt(8));
            long packed = Check.packed(text.substring(at, end));
            same("put(" + packed + "L)", x.put(packed), model.put(packed));
            at = end;
        }
        if (random.nextInt(12) == 0) {
            long any = random.nextLong() >>> (8 * random.nextInt(8));
            same("put(" + any + "L)", x.put(any), model.put(any));
        }
        same("fault()", x.fault(), model.fault());
        same("carryOut()", x.carryOut(), model.carryOut());
        if (random.nextInt(4) != 0) same("wipe()", x.wipe(), model.wipe());
    }

    private String someText() {
        StringBuilder text = new StringBuilder();
        int steps = random.nextInt(5);
        for (int i = 0; i <= steps; i++) {
            if (i > 0) text.append(',');
            int kind = random.nextInt(4);
            if (kind == 0) text.append('n').append(random.nextInt(6) == 0 ? from(1, 99) : 1 + random.nextInt(4));
            if (kind == 1) text.append('v').append(from(0, 1000));
            if (kind == 2) text.append('d').append(from(0, model.count(1) - 1)).append(':');
            if (kind == 3) text.append('p');
            if (kind >= 2) text.append(random.nextInt(20) == 0 ? "-0" : "" + length(3000)).append('/').append(from(1, 50));
        }
        if (random.nextInt(3) == 0) {
            int at = random.nextInt(text.length());
            text.setCharAt(at, "nvdp0123456789,:/-".charAt(random.nextInt(18)));
        }
        if (random.nextInt(10) == 0) text.setLength(random.nextInt(text.length()));
        return text.toString();
    }

    private void answer(int kind) {
        int u = unit();
        int n = from(1, 60);
        int what = from(0, 3);
        if (kind == 0) same("errors(" + u + ", " + n + ", " + what + ")", x.errors(u, n, what), model.errors(u, n, what));
        if (kind == 1) same("seen(" + u + ", " + what + ")", x.seen(u, what + 3), model.seen(u, what + 3));
        int more = from(0, 13);
        if (kind == 2) same("state(" + u + ", " + more + ")", x.state(u, more), model.state(u, more));
        if (kind == 3) same("get(" + u + ", " + more + ")", x.get(u, more), model.get(u, more));
        if (kind == 4) same("total(" + more + ")", x.total(more), model.total(more));
        if (kind == 5) same("count(" + more + ")", x.count(more), model.count(more));
        int slot = from(0, 1);
        if (kind == 6) same("save(" + slot + ")", x.save(slot), model.save(slot));
        if (kind == 7) same("restore(" + slot + ")", x.restore(slot), model.restore(slot));
    }

    private void compareUnit(int u) {
        for (int what = 0; what < 5; what++) same("count(" + what + ")", x.count(what), model.count(what));
        for (int what = 0; what < 6; what++) same("total(" + what + ")", x.total(what), model.total(what));
        for (int i = 0; i < 11; i++) same("get(" + u + ", " + i + ")", x.get(u, i), model.get(u, i));
        for (int i = 0; i < 14; i++) same("state(" + u + ", " + i + ")", x.state(u, i), model.state(u, i));
        for (int i = 0; i < 7; i++) same("seen(" + u + ", " + i + ")", x.seen(u, i), model.seen(u, i));
        for (int i = 0; i < 4; i++) same("errors(" + u + ", 60, " + i + ")", x.errors(u, 60, i), model.errors(u, 60, i));
    }
}
