import java.util.ArrayList;
import java.util.List;
import java.util.function.Supplier;

/**
 * Objects in known conditions, and all that can be asked of them. What makes one and what asks it take less than 512
 * calls together, for behind these nothing is promised.
 */
final class World {
    interface Call {
        int on(PrintRegister x);
    }

    /** As an object is at first. */
    static final World FRESH = new World("fresh", 3, World::fresh);
    /** Five units in the middle of everything; the slot 1 is empty. */
    static final World BUSY = new World("busy", 5, World::busy);
    /** Two units at the last time there is; both slots are used, and the pad is full. */
    static final World LAST = new World("last", 2, World::last);
    static final World[] ALL = {FRESH, BUSY, LAST};

    final String name;
    final int units;
    private final Supplier<PrintRegister> maker;
    private final List<Integer> answers;

    private World(String name, int units, Supplier<PrintRegister> maker) {
        this.name = name;
        this.units = units;
        this.maker = maker;
        answers = asked(maker.get());
    }

    PrintRegister made() {
        return maker.get();
    }

    /** A call that answers an error, behind which nothing has changed. */
    void refuses(String what, int error, Call call) {
        answers(what, error, call);
    }

    /** A call that is a question alone: nothing has changed behind it. */
    void answers(String what, int want, Call call) {
        PrintRegister x = made();
        Check.due(name + ": " + what, call.on(x), want);
        dueUnchanged(what, x);
    }

    void dueUnchanged(String what, PrintRegister x) {
        dueSame(name + ": " + what, asked(x), answers);
    }

    static void dueSame(String what, List<Integer> got, List<Integer> want) {
        int same = 0;
        while (same < got.size() && same < want.size() && got.get(same).equals(want.get(same))) same++;
        Check.due(what + ": how many answers behind it are the same", same, Math.max(got.size(), want.size()));
    }

    private static PrintRegister fresh() {
        return new PrintRegister();
    }

    private static PrintRegister busy() {
        PrintRegister x = new PrintRegister();
        x.setUp(5);
        for (int u = 0; u < 5; u++) {
            x.set(u, PrintRegister.DISTANCE, 1 + u);
            x.set(u, PrintRegister.SENSOR, 2 + u % 2);
            x.set(u, PrintRegister.PUSH, 90 - 40 * u);
            x.set(u, PrintRegister.BAND, 1 + u);
            x.set(u, PrintRegister.LEARN, 200 - u);
            for (int what = 0; what < 3; what++) x.adjust(u, what, 30 * u - 45 + what);
        }
        x.run(30);
        x.speed(120);
        x.run(4);
        x.save(0);
        x.splice(600, 20);
        x.run(3);
        x.speed(200);
        x.disturb(1, 300, 40);
        x.disturb(4, -150, 33);
        x.run(4);
        for (int u = 0; u < 5; u++) {
            x.hide(u, 3 + 5 * u);
            x.falseMark(u, u == 1 ? 2000 : 10 - 7 * u, 30 - 2 * u);
        }
        x.splice(-90, 30);
        x.run(2);
        x.speed(150);
        Check.putText(x, "n5,d4:9/9,v77");
        return x;
    }

    private static PrintRegister last() {
        PrintRegister x = new PrintRegister();
        x.setUp(2);
        x.set(1, PrintRegister.PUSH, 200);
        for (int i = 0; i < 333; i++) x.run(300);
        x.save(1);
        x.speed(300);
        x.adjust(1, 0, 150);
        x.adjust(1, 2, 40);
        x.run(60);
        x.speed(20);
        x.run(38);
        x.speed(60);
        x.splice(500, 50);
        x.disturb(1, 80, 9);
        x.hide(1, 8);
        x.falseMark(1, 33, 7);
        x.run(2);
        x.save(0);
        Check.putText(x, "v5,d0:-3000/50,d1:2999/49,p-1234/11,v1000,v999,v998,v997,v996,v995,v994,v993,v99");
        return x;
    }

    /** What can be asked now, and how it goes on then, also with the pad and the slots. */
    private static List<Integer> asked(PrintRegister x) {
        List<Integer> answers = askedOfUnits(x);
        int units = x.count(1);
        answers.add(x.count(4));
        answers.add(x.fault());
        answers.add(x.carryOut());
        answers.add(x.count(4));
        goingOn(x, units, answers);
        for (int slot = 0; slot < 2; slot++) {
            answers.add(x.restore(slot));
            answers.add(x.run(1));
            goingOn(x, x.count(1), answers);
        }
        return answers;
    }

    /** What can be asked now, and how it goes on then, of all but the pad and the slots. */
    static List<Integer> askedOfUnits(PrintRegister x) {
        List<Integer> answers = new ArrayList<>();
        int units = x.count(1);
        for (int what = 0; what < 4; what++) answers.add(x.count(what));
        for (int what = 0; what < 6; what++) answers.add(x.total(what));
        for (int u = 0; u < units; u++) {
            for (int i = 0; i < 11; i++) answers.add(x.get(u, i));
            for (int i = 0; i < 14; i++) answers.add(x.state(u, i));
            for (int i = 0; i < 7; i++) answers.add(x.seen(u, i));
            for (int i = 0; i < 3; i++) answers.add(x.errors(u, 60, i));
        }
        answers.add(x.forecast(1, 5, 60));
        answers.add(x.attempt(1, PrintRegister.GAIN, 200, 40));
        for (int i = 0; i < 5; i++) {
            int time = x.run(3);
            answers.add(time);
            if (time < 0) break;
            goingOn(x, units, answers);
        }
        return answers;
    }

    private static void goingOn(PrintRegister x, int units, List<Integer> answers) {
        for (int u = 0; u < units; u++) {
            answers.add(x.state(u, 0));
            answers.add(x.state(u, 3));
            answers.add(x.state(u, 8));
            answers.add(x.state(u, 10));
            answers.add(x.seen(u, 2));
        }
    }
}
