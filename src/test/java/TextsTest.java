/** The pad, its text, and what is carried out: each place of the text with each character. */
public final class TextsTest {
    private static final String DIGITS = "0123456789";
    private static final String FROM_1 = "123456789";
    private static final String STEP = "nvdp";

    public static void main(String[] args) {
        charactersOfOneNumber();
        bitsAboveTheLastCharacter();
        lengthsOfThePad();
        order();
        everyPlace();
        numbersOfRepeats();
        numbersOfSpeed();
        numbersOfDisturbances();
        textsOf80();
        faultsBehindRightSteps();
        unitsOfTexts();
        stepsInTheirOrder();
        repeatsThatWereMade();
        signs();
        timeOfTexts();
        Check.end("TextsTest");
    }

    private static void due(String what, long got, long want) {
        Check.due(what, got, want);
    }

    /** "1 to 8 characters"; "a code is not 33 to 126": each code at each place of each length. */
    private static void charactersOfOneNumber() {
        for (int length = 1; length <= 8; length++) {
            for (int place = 0; place < length; place++) {
                PrintRegister x = new PrintRegister();
                for (int code = 0; code < 256; code++) {
                    long number = 0;
                    for (int i = 0; i < length; i++) number = number << 8 | (i == place ? code : 'n');
                    boolean isShorter = code == 0 && place == 0 && length > 1;
                    int want = code >= 33 && code <= 126 ? length : isShorter ? length - 1 : Check.BAD_VALUE;
                    due("put " + length + " characters with " + code + " at " + place, x.put(number), want);
                    if (want > 0) due("wipe", x.wipe(), want);
                }
            }
        }
    }

    /** "everything above them has to be 0, too" */
    private static void bitsAboveTheLastCharacter() {
        for (int length = 0; length < 7; length++) {
            for (int bit = 8 * length + 8; bit < 64; bit++) {
                PrintRegister x = new PrintRegister();
                long number = 1L << bit;
                for (int i = 0; i < length; i++) number |= (long) 'v' << 8 * i;
                due("put " + length + " characters and the bit " + bit, x.put(number), Check.BAD_VALUE);
                due("nothing was put", x.count(4), 0);
            }
        }
        PrintRegister x = new PrintRegister();
        due("a character above 8 bits that are 0", x.put(0x6E00L), Check.BAD_VALUE);
        due("far above", x.put(0x6E00000000000000L), Check.BAD_VALUE);
        due("between", x.put(0x6E006E6E6E6E6E6EL), Check.BAD_VALUE);
        due("the eighth character 255", x.put(0xFF6E6E6E6E6E6E6EL), Check.BAD_VALUE);
        due("the eighth character 126", x.put(0x7E6E6E6E6E6E6E6EL), 8);
        due("the eighth character 33", x.put(0x216E6E6E6E6E6E6EL), 16);
    }

    /** "TOO_MANY if the pad would be longer than 80" */
    private static void lengthsOfThePad() {
        String eight = "12345678";
        for (int length = 65; length <= 80; length++) {
            for (int more = 1; more <= 8; more++) {
                PrintRegister x = new PrintRegister();
                for (int i = 0; i < length / 8; i++) x.put(Check.packed(eight));
                if (length % 8 > 0) x.put(Check.packed(eight.substring(0, length % 8)));
                due("length", x.count(4), length);
                long number = Check.packed(eight.substring(0, more));
                due(more + " behind " + length, x.put(number), length + more <= 80 ? length + more : Check.TOO_MANY);
                due("length then", x.count(4), length + more <= 80 ? length + more : length);
                due("a bad code comes first", x.put(number << 8 | 32), Check.BAD_VALUE);
                due("no character comes first", x.put(0), Check.BAD_VALUE);
                int then = x.count(4);
                due("wipe", x.wipe(), then);
                due("empty", x.count(4), 0);
                due("wipe what is empty", x.wipe(), 0);
                due("a new text", x.put('v'), 1);
            }
        }
    }

    /** "its lowest 8 bits are the last character" */
    private static void order() {
        PrintRegister x = new PrintRegister();
        due("v1", x.put('v' << 8 | '1'), 2);
        due("2", x.put('2'), 3);
        due("v12", x.carryOut(), 0);
        due("speed", x.count(2), 12);
        x.put(Check.packed("v123,v45"));
        x.put(Check.packed("6,n1"));
        due("one repeat", x.carryOut(), 1);
        due("the last speed", x.count(2), 456);
    }

    /** One place of the text: what stands before it, what can stand at it, whether the text can end there. */
    private static void place(String before, String allowed, boolean canEnd, boolean canEndBehindDigit) {
        String[] fronts = {"", "n1,", "d4:-3000/50,", "v0,p0/1,"};
        for (String front : fronts) {
            String text = front + before;
            int length = text.length();
            if (length > 0) dueFault(text, canEnd ? Check.NONE : length);
            for (char c = 33; c <= 126; c++) {
                int want = length + 1;
                if (allowed.indexOf(c) < 0) {
                    want = length;
                } else if (DIGITS.indexOf(c) >= 0 && canEndBehindDigit) {
                    want = Check.NONE;
                }
                dueFault(text + c, want);
                // A fault is the first one, whatever comes behind it.
                if (want == length) dueFault(text + c + ",n1", length);
            }
        }
    }

    private static void dueFault(String text, int want) {
        PrintRegister x = new PrintRegister();
        x.setUp(5);
        Check.putText(x, text);
        due("the fault of " + text, x.fault(), want);
        due("the pad stays", x.count(4), text.length());
        due("the fault once more", x.fault(), want);
        int answer = x.carryOut();
        if (want != Check.NONE) {
            due("carryOut() of " + text, answer, Check.BAD_TEXT);
            due("the pad stays", x.count(4), text.length());
            due("nothing was made", x.count(0), 0);
        } else {
            Check.dueTrue("carryOut() of " + text + " answers the repeats", answer >= 0);
            due("the repeats", x.count(0), answer);
            due("the pad is empty", x.count(4), 0);
            due("the fault of nothing", x.fault(), 0);
        }
    }

    private static void everyPlace() {
        dueFault("", 0);
        place("", STEP, false, false);
        place("n", FROM_1, false, true);
        for (int i = 1; i <= 9; i++) place("n" + i, DIGITS + ",", true, true);
        for (String n : new String[] {"10", "11", "19", "50", "98", "99"}) place("n" + n, ",", true, false);
        place("n99,", STEP, false, false);
        place("n1,n1,", STEP, false, false);
        place("v", DIGITS, false, true);
        place("v0", ",", true, false);
        for (String v : new String[] {"1", "9", "10", "11", "99"}) place("v" + v, DIGITS + ",", true, true);
        place("v100", "0,", true, true);
        for (String v : new String[] {"101", "109", "110", "200", "999", "1000"}) place("v" + v, ",", true, false);
        place("d", "01234", false, false);
        for (int u = 0; u < 5; u++) {
            place("d" + u, ":", false, false);
            disturbance("d" + u + ":");
        }
        disturbance("p");
    }

    /** The places of [ "-" ] number "/" number. */
    private static void disturbance(String head) {
        place(head, "-" + DIGITS, false, false);
        place(head + "-", DIGITS, false, false);
        for (String sign : new String[] {"", "-"}) {
            place(head + sign + "0", "/", false, false);
            for (String a : new String[] {"1", "3", "9", "30", "31", "99", "100", "299"}) {
                place(head + sign + a, DIGITS + "/", false, false);
            }
            place(head + sign + "300", "0/", false, false);
            for (String a : new String[] {"301", "309", "999", "1000", "2999", "3000"}) place(head + sign + a, "/", false, false);
            place(head + sign + "3000/", FROM_1, false, true);
            for (int i = 1; i <= 4; i++) place(head + sign + "0/" + i, DIGITS + ",", true, true);
            place(head + sign + "1/5", "0,", true, true);
            for (int i = 6; i <= 9; i++) place(head + sign + "1/" + i, ",", true, false);
            for (String d : new String[] {"10", "19", "40", "49", "50"}) place(head + sign + "1/" + d, ",", true, false);
            place(head + sign + "3000/50,", STEP, false, false);
        }
    }

    /** Every number that might stand behind "n": 1 to 99, the first digit that makes it too great, leading zeros. */
    private static void numbersOfRepeats() {
        for (int n = 0; n <= 1000; n++) {
            PrintRegister x = new PrintRegister();
            Check.putText(x, "n" + n);
            if (n >= 1 && n <= 99) {
                due("no fault in n" + n, x.fault(), Check.NONE);
                due("carry out n" + n, x.carryOut(), n);
                due("time", x.count(0), n);
            } else {
                due("the fault of n" + n, x.fault(), n == 0 ? 1 : 3);
                due("carry out n" + n, x.carryOut(), Check.BAD_TEXT);
            }
        }
        for (String zero : new String[] {"n0", "n00", "n01", "n09", "n010"}) dueFault(zero, 1);
    }

    private static void numbersOfSpeed() {
        for (int v = 0; v <= 10010; v++) {
            PrintRegister x = new PrintRegister();
            Check.putText(x, "v" + v);
            if (v <= 1000) {
                due("no fault in v" + v, x.fault(), Check.NONE);
                due("carry out v" + v, x.carryOut(), 0);
                due("speed", x.count(2), v);
            } else {
                due("the fault of v" + v, x.fault(), v / 10 == 1000 ? 5 : 4);
                due("carry out v" + v, x.carryOut(), Check.BAD_TEXT);
                due("speed", x.count(2), 0);
            }
        }
        for (String zero : new String[] {"v00", "v01", "v0000", "v01000"}) dueFault(zero, 2);
    }

    private static void numbersOfDisturbances() {
        for (int amount = -3010; amount <= 3010; amount++) {
            PrintRegister x = new PrintRegister();
            boolean isRight = Math.abs(amount) <= 3000;
            String text = "d2:" + amount + "/1,n1";
            Check.putText(x, text);
            due("carry out " + text, x.carryOut(), isRight ? 1 : Check.BAD_TEXT);
            if (isRight) due("offset", x.seen(2, 0), amount);
            if (!isRight) due("the fault of " + text, x.fault(), amount < 0 ? 7 : 6);
            x = new PrintRegister();
            text = "p" + amount + "/1,n1";
            Check.putText(x, text);
            due("carry out " + text, x.carryOut(), isRight ? 1 : Check.BAD_TEXT);
            if (isRight) due("offset", x.seen(0, 0), amount);
            if (!isRight) due("the fault of " + text, x.fault(), amount < 0 ? 5 : 4);
        }
        for (int duration = 0; duration <= 520; duration++) {
            PrintRegister x = new PrintRegister();
            boolean isRight = duration >= 1 && duration <= 50;
            String text = "d1:9/" + duration + ",v1";
            Check.putText(x, text);
            due("carry out " + text, x.carryOut(), isRight ? 0 : Check.BAD_TEXT);
            due("left", x.state(1, 10), isRight ? duration : 0);
            if (!isRight) due("the fault of " + text, x.fault(), duration == 0 ? 5 : duration < 100 || duration / 10 > 50 ? 6 : 7);
        }
    }

    /** "at most 80 characters" */
    private static void textsOf80() {
        StringBuilder text = new StringBuilder("n1");
        while (text.length() < 77) text.append(",n1");
        text.append(",n");
        due("80 less 1", text.length(), 79);
        dueFault(text.toString(), 79);
        dueFault(text + "9", Check.NONE);
        dueFault(text + "0", 79);
        dueFault(text.substring(0, 77) + ",", 78);
        PrintRegister x = new PrintRegister();
        Check.putText(x, text + "9");
        due("length", x.count(4), 80);
        due("no more", x.put('9'), Check.TOO_MANY);
        due("25 * 1 + 1 + 9 repeats", x.carryOut(), 35);
        String most = text.substring(0, 74);
        dueFault(most + ",v1000", Check.NONE);
        dueFault(most + ",v1001", 79);
        dueFault(most + ",v100,", 80);
        dueFault(most + ",d4:10", 80);
        dueFault(most + ",d5:10", 76);
        dueFault(most + ",p10/9", Check.NONE);
        dueFault(most + ",p10/0", 79);
        dueFault(most + ",p110/", 80);
        dueFault("x" + most.substring(1) + ",p110/", 0);
        dueFault(most + "1234xx", 75);
    }

    private static void faultsBehindRightSteps() {
        String[] steps = {"n99", "v1000", "v0", "d0:-3000/50", "d4:0/1", "p-0/9", "p3000/50"};
        for (String first : steps) {
            for (String second : steps) {
                int length = first.length() + 1 + second.length();
                dueFault(first + "," + second, Check.NONE);
                dueFault(first + "," + second + ",", length + 1);
                dueFault(first + "," + second + ";", length);
                dueFault(first + "," + second + "x", length);
                dueFault(first + ",," + second, first.length() + 1);
                dueFault(first + second, first.length());
                dueFault("," + first, 0);
            }
        }
    }

    /** "NO_SUCH if it names a unit that does not exist" */
    private static void unitsOfTexts() {
        for (int units = 2; units <= 5; units++) {
            for (int u = 0; u < 5; u++) {
                for (String text : new String[] {"d" + u + ":7/3", "v9,d" + u + ":7/3,n1", "d1:1/1,d" + u + ":7/3", "d" + u + ":7/3,d0:1/1"}) {
                    PrintRegister x = new PrintRegister();
                    x.setUp(units);
                    Check.putText(x, text);
                    due("no fault in " + text, x.fault(), Check.NONE);
                    int answer = x.carryOut();
                    if (u >= units) {
                        due(text + " with " + units, answer, Check.NO_SUCH);
                        due("speed", x.count(2), 0);
                        due("time", x.count(0), 0);
                        due("the pad stays", x.count(4), text.length());
                        due("no disturbance", x.state(1, 10), 0);
                    } else {
                        due(text + " with " + units, answer, text.endsWith("n1") ? 1 : 0);
                        due("the pad is empty", x.count(4), 0);
                    }
                }
            }
        }
    }

    private static void stepsInTheirOrder() {
        PrintRegister x = new PrintRegister();
        x.set(0, 10, 100);
        Check.putText(x, "v10,n1");
        due("v10,n1", x.carryOut(), 1);
        due("speed before the repeat", x.seen(0, 0), 10);
        Check.putText(x, "n1,v30");
        due("n1,v30", x.carryOut(), 1);
        due("speed behind the repeat", x.seen(0, 0), 0);
        x.run(1);
        due("the change then", x.seen(0, 0), 20);
        Check.putText(x, "d0:50/5,d0:-60/3,n2");
        due("a disturbance over the other", x.carryOut(), 2);
        due("-60 * 2 / 3", x.seen(0, 0), -40);
        due("left", x.state(0, 10), 1);
        Check.putText(x, "p5/9,p8/2,n1,d0:1/3");
        due("a splice over the other", x.carryOut(), 1);
        due("8", x.seen(0, 0), 8);
        due("under way", x.count(3), 10);
        due("the disturbance behind it", x.state(0, 10), 3);
        x.setUp(3);
        Check.putText(x, "d1:9/9,n3,v7,n4,p-3/1,n1,d2:-5/4,n2,v1000");
        due("3 + 4 + 1 + 2", x.carryOut(), 10);
        int[] counts = {10, 3, 1000, 8, 0};
        for (int what = 0; what < 5; what++) due("count(" + what + ")", x.count(what), counts[what]);
        due("left of the first", x.state(1, 10), 0);
        due("left of the second", x.state(2, 10), 2);
        due("ready time of unit 0", x.state(0, 7), 11 - 3);
    }

    /** "Returns the number of repeats that were made" */
    private static void repeatsThatWereMade() {
        PrintRegister x = new PrintRegister();
        for (String none : new String[] {"v0", "v1000", "d0:1/1", "p1/1", "v1,v2,d2:-0/1,p-0/50"}) {
            Check.putText(x, none);
            due(none, x.carryOut(), 0);
            due("time", x.count(0), 0);
        }
        Check.putText(x, "n1");
        due("n1", x.carryOut(), 1);
        Check.putText(x, "n99,n99,n99,n99");
        due("4 * 99", x.carryOut(), 396);
        due("time", x.count(0), 397);
        due("what is empty", x.carryOut(), Check.BAD_TEXT);
    }

    /** "-0" is 0: a disturbance of this amount lasts, and a splice comes. */
    private static void signs() {
        PrintRegister x = new PrintRegister();
        x.disturb(1, 500, 50);
        Check.putText(x, "d1:-0/2,n1");
        due("-0", x.carryOut(), 1);
        due("no offset", x.seen(1, 0), 0);
        due("left", x.state(1, 10), 1);
        Check.putText(x, "p-0/2,n1");
        due("-0", x.carryOut(), 1);
        due("no offset", x.seen(0, 0), 0);
        due("under way", x.count(3), 10);
        due("ready", x.state(0, 7), 10);
        Check.putText(x, "d1:-7/1,d2:7/1,n1");
        x.carryOut();
        due("-7", x.seen(1, 0), -7);
        due("7 behind -7", x.seen(2, 0), 7);
        Check.putText(x, "p-9/1,d1:8/1,n1");
        x.carryOut();
        due("-9", x.seen(0, 0), -9);
        due("8 behind -9", x.seen(1, 0), 8);
    }

    /** "NOT_POSSIBLE if the time would become greater than 100000" */
    private static void timeOfTexts() {
        PrintRegister x = new PrintRegister();
        for (int i = 0; i < 332; i++) x.run(300);
        x.run(202);
        x.save(0);
        String[] texts = {"n99,n99", "n99,n98,n2", "v5,n99,d1:1/1,n99,v6", "n99,n99,n1", "n99,n98,n1,v3,n1"};
        int[] repeats = {198, 199, 198, 199, 199};
        for (int i = 0; i < texts.length; i++) {
            Check.putText(x, texts[i]);
            boolean fits = repeats[i] <= 198;
            due(texts[i], x.carryOut(), fits ? repeats[i] : Check.NOT_POSSIBLE);
            due("time", x.count(0), fits ? 100000 : 99802);
            due("the pad", x.wipe(), fits ? 0 : texts[i].length());
            x.restore(0);
        }
    }
}
