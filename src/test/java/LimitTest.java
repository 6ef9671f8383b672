/** Promises 1 to 21: every limit that they name, on both sides of it. What a limit refuses is in RefusalTest, too. */
public final class LimitTest {
    private static final Class<?> INDEX = IndexOutOfBoundsException.class;

    public static void main(String[] args) {
        newObject();
        feedsTwentyBytes();
        trimsToTheFirstBytes();
        twelveProgramsByAnyCall();
        placeOfTheLatestError();
        passesMakeTheNextProgram();
        betterUntilNothingChanges();
        thirtyNumbers();
        mostSteps();
        jumpsIfNotZero();
        reckonsIn64Bits();
        stopsWithItsLastStep();
        readsBehindTheEnd();
        putsOutSixty();
        twelveVariables();
        differOfEveryInput();
        differWithinFiveHundredSteps();
        differByWhatIsPutOut();
        shareOfAllInputs();
        comparingIsForItself();
        digestWrapsAround();
        Check.end("LimitTest");
    }

    /** Promise 1: "without programs, with an empty tape and an empty input"; what was not is 0 or -1. */
    private static void newObject() {
        PassForge x = new PassForge();
        Check.is("programs", x.programs(), 0);
        Check.is("errorAt", x.errorAt(), -1);
        for (int what = 0; what <= 2; what++) {
            Check.is("ran(" + what + ")", x.ran(what), 0);
        }
        for (int i = 0; i <= 11; i++) {
            Check.is("variable(" + i + ")", x.variable(i), 0);
        }
        Check.is("empty", x.empty(), 0);
        Check.is("the first feed", x.feed(0, 0, 0, 0, 0), 20);
        PassForge y = new PassForge();
        Check.is("an empty tape", y.compile(), 1);
        Check.is("its length", y.errorAt(), 0);
        Check.is("the first put", y.put(7), 1);
        Check.is("another object has another tape", new PassForge().trim(0), 0);
    }

    /** Promise 2: "the four bytes of each number, the highest one first", a to e being the bytes 1 to 20. */
    private static void feedsTwentyBytes() {
        String text = "ab=1;out 2;in c;d=3;";
        PassForge x = new PassForge();
        Check.is("feed", x.feed(0x61623d31, 0x3b6f7574, 0x20323b69, 0x6e20633b, 0x643d333b), 20);
        Check.is("compile", x.compile(), 0);
        Check.same("each byte at its place", Check.show(x, 0, text), "ab = 1; out 2; in c; d = 3;");
        for (int i = 0; i < 20; i++) {
            int[] fours = {0x20202020, 0x20202020, 0x20202020, 0x20202020, 0x20202020};
            fours[i / 4] ^= (0x20 ^ 0xff) << 24 - 8 * (i % 4);
            PassForge y = new PassForge();
            y.feed(fours[0], fours[1], fours[2], fours[3], fours[4]);
            Check.is("a byte of 255", y.compile(), 1);
            Check.is("its place", y.errorAt(), i);
        }
        PassForge z = new PassForge();
        for (int i = 1; i <= 80; i++) {
            Check.is("feed", z.feed(0x20202020, 0x20202020, 0x20202020, 0x20202020, i == 80 ? 0x2068616c : 0x20202020), 20 * i);
        }
        Check.is("a word at the end of 1600 bytes", z.compile(), 1);
        Check.is("is read to its end", z.errorAt(), 1600);
    }

    /** Promise 3: the first bytes stay, and what is fed goes behind them. */
    private static void trimsToTheFirstBytes() {
        PassForge x = new PassForge();
        Check.feed(x, "out 1;out 2;out 3;");
        Check.is("trim to all", x.trim(18), 18);
        Check.is("trim by one", x.trim(17), 17);
        Check.is("trim", x.trim(6), 6);
        Check.is("feed", x.feed(0x6f757420, 0x343b2020, 0x20202020, 0x20202020, 0x20202020), 26);
        Check.is("compile", x.compile(), 0);
        Check.same("the first and the new ones", Check.show(x, 0, ""), "out 1; out 4;");
        Check.feed(x, "halt;");
        Check.is("trim to none", x.trim(0), 0);
        Check.is("an empty tape", x.compile(), 1);
        Check.is("at its length", x.errorAt(), 0);
    }

    /** Promises 4, 6, 11 and 12: "there are 12 programs" */
    private static void twelveProgramsByAnyCall() {
        PassForge x = new PassForge();
        for (int i = 0; i < 12; i += 3) {
            Check.is("compile", Check.compile(x, "a = " + i + "; out a;"), 0);
            Check.is("programs", x.programs(), i + 1);
            Check.is("an error", Check.compile(x, "a = 1; $"), 1);
            Check.is("makes no program", x.programs(), i + 1);
            Check.is("pass", x.pass(i, 0), 1);
            Check.is("programs", x.programs(), i + 2);
            Check.is("better", x.better(i), 2);
            Check.is("programs", x.programs(), i + 3);
        }
        for (int i = 0; i < 12; i++) {
            Check.is("numbered in the order in which they were made", x.count(i, 0), i % 3 == 2 ? 1 : 2);
            Check.is("the numbers", x.number(i, 0, false), i / 3 * 3);
        }
        Check.fails("a 13th", IllegalStateException.class, () -> x.pass(0, 0));
    }

    /** Promise 5: "the position of the error of the latest compile; -1 if it had none, or there was none" */
    private static void placeOfTheLatestError() {
        PassForge x = new PassForge();
        Check.compile(x, "out 1; $");
        Check.is("an error", x.errorAt(), 7);
        Check.is("asked again", x.errorAt(), 7);
        Check.compile(x, "out $");
        Check.is("the next one", x.errorAt(), 4);
        Check.feed(x, "out 1;");
        Check.is("feed and trim leave it", x.errorAt(), 4);
        x.compile();
        Check.is("no error", x.errorAt(), -1);
        Check.compile(x, "$");
        Check.is("at 0", x.errorAt(), 0);
        x.pass(0, 0);
        x.better(0);
        x.run(0, 5);
        Check.is("passes and runs leave it", x.errorAt(), 0);
        Check.compile(x, " ".repeat(1600));
        Check.is("at 1600", x.errorAt(), 1600);
    }

    private static void passesMakeTheNextProgram() {
        PassForge x = Check.with("b = a; c = b + b; b = c;");
        int[] changes = {0, 2, 0, 3, 0};
        for (int pass = 0; pass < 5; pass++) {
            Check.is("pass " + pass, x.pass(0, pass), changes[pass]);
            Check.is("programs", x.programs(), pass + 2);
        }
        Check.same("fold", Check.show(x, 1, "b a c"), "b = a; c = b + b; b = c;");
        Check.same("copy", Check.show(x, 2, "b a c"), "b = a; c = a + a; b = c;");
        Check.same("value", Check.show(x, 3, "b a c"), "b = a; c = b + b; b = c;");
        Check.same("drop", Check.show(x, 4, "b a c"), "");
        Check.same("move", Check.show(x, 5, "b a c"), "b = a; c = b + b; b = c;");
    }

    /** Promise 12: in the order of the passes, until none of the five made a change, at most 8 times. */
    private static void betterUntilNothingChanges() {
        better("halt;", 0, "halt;");
        better("a = b; out a;", 2, "out b;");
        better("k: a = 5; out a; goto k;", 2, "k: out 5; goto k;");
        better("in b; a = b + 1; c = b + 1; out c; out a;", 3, "in b; a = b + 1; out a; out a;");
        better("k: in b; a = c + 1; d = a; out d; if b goto k;", 3, "a = c + 1; k: in b; out a; if b goto k;");
        // each round of these drops one if: its number is known only when the block ahead has come to it
        String one = "if x goto z; ";
        for (int ifs = 1; ifs <= 12; ifs++) {
            String text = "x = 0; " + one.repeat(ifs) + "out x; z: out 1;";
            int rounds = Math.min(ifs, 8);
            // two changes for each if that is dropped; behind the last one, x is put into out x, and x = 0 and z are dropped
            int last = ifs < 8 ? 3 : ifs == 8 ? 1 : 0;
            String due = ifs < 8 ? "out 0; out 1;" : ifs == 8 ? "x = 0; out x; out 1;" : "x = 0; " + one.repeat(ifs - rounds) + "out x; z: out 1;";
            better(text, 2 * rounds + last, due);
        }
    }

    private static void better(String text, int changes, String due) {
        PassForge x = Check.with(text);
        Check.is("better of " + text, x.better(0), changes);
        Check.same("better of " + text, Check.show(x, 1, text), due);
        Check.same("the old one stays: " + text, Check.show(x, 0, text), text);
        Check.is("one program more", x.programs(), 2);
    }

    /** Promises 13 and 14: 30 numbers, of any size. */
    private static void thirtyNumbers() {
        PassForge x = Check.with("k: in a; out a; goto k;");
        Check.is("empty", x.empty(), 0);
        for (int i = 1; i <= 30; i++) {
            Check.is("put", x.put(i == 30 ? Long.MIN_VALUE : i == 29 ? Long.MAX_VALUE : -i), i);
        }
        Check.is("run", x.run(0, 93), 93);
        for (int i = 0; i < 31; i++) {
            Check.is("the number " + i, x.output(i), i == 30 ? 0 : i == 29 ? Long.MIN_VALUE : i == 28 ? Long.MAX_VALUE : -i - 1);
        }
        Check.is("empty", x.empty(), 30);
        Check.is("empty again", x.empty(), 0);
        Check.is("put", x.put(8), 1);
        x.run(0, 6);
        Check.is("the new one", x.output(0), 8);
        Check.is("none behind it", x.output(1), 0);
    }

    /** Promise 15: "1 to 5000" steps, labels being none. */
    private static void mostSteps() {
        PassForge x = Check.with("k: a = a + 1; goto k;");
        for (int most : new int[] {1, 2, 3, 499, 500, 501, 4999, 5000}) {
            Check.is("run(0, " + most + ")", x.run(0, most), most);
            Check.is("a", x.variable(0), (most + 1) / 2);
            Check.is("not by itself", x.ran(0), 0);
        }
        PassForge y = Check.with("a = 1249; k: a = a - 1; b = b + 2; c = c + b; if a goto k; out b; out c; halt;");
        Check.is("all its steps", y.run(0, 5000), 5000);
        Check.is("stops with the 5000th", y.ran(0), 1);
        Check.is("one less", y.run(0, 4999), 4999);
        Check.is("has not stopped", y.ran(0), 0);
        Check.is("but put out both", y.ran(1), 2);
        Check.is("each label is no step", Check.with("a: b: out 1; c: d: out 2; e: f:").run(0, 5000), 2);
    }

    /** "if v goto: likewise, if v is not 0", whatever its sign, and in all of its 64 bits */
    private static void jumpsIfNotZero() {
        PassForge x = Check.with("in a; if a goto z; out 1; z: out 2;");
        long[] numbers = {0, 1, -1, 2, 256, 65536, 1L << 31, 1L << 32, 1L << 62, Long.MIN_VALUE, Long.MAX_VALUE};
        for (long number : numbers) {
            x.empty();
            x.put(number);
            Check.is("steps with " + number, x.run(0, 9), number == 0 ? 4 : 3);
            Check.is("put out with " + number, x.output(0), number == 0 ? 1 : 2);
        }
    }

    /** "All is reckoned in 64-bit integers, which wrap around; / and % by 0 yield 0, / is cut towards 0, % has the sign of the left operand." */
    private static void reckonsIn64Bits() {
        long least = Long.MIN_VALUE;
        long most = Long.MAX_VALUE;
        long[][] rows = {
            // v, w, and v + w, v - w, v * w, v / w, v % w, v & w, v | w, v ^ w, v < w, v = w
            {most, 1, least, most - 1, most, most, 0, 1, most, most - 1, 0, 0},
            {least, -1, most, least + 1, least, least, 0, least, -1, most, 1, 0},
            {least, 1, least + 1, most, least, least, 0, 0, least + 1, least + 1, 1, 0},
            {least, least, 0, 0, 0, 1, 0, least, least, 0, 0, 1},
            {least, most, -1, 1, least, -1, -1, 0, -1, -1, 1, 0},
            {most, most, -2, 0, 1, 1, 0, most, most, 0, 0, 1},
            {most, least, -1, -1, least, 0, most, 0, -1, -1, 0, 0},
            {7, 0, 7, 7, 0, 0, 0, 0, 7, 7, 0, 0},
            {-7, 0, -7, -7, 0, 0, 0, 0, -7, -7, 1, 0},
            {0, 0, 0, 0, 0, 0, 0, 0, 0, 0, 0, 1},
            {least, 0, least, least, 0, 0, 0, 0, least, least, 1, 0},
            {0, 7, 7, -7, 0, 0, 0, 0, 7, 7, 1, 0},
            {7, 2, 9, 5, 14, 3, 1, 2, 7, 5, 0, 0},
            {-7, 2, -5, -9, -14, -3, -1, 0, -5, -5, 1, 0},
            {7, -2, 5, 9, -14, -3, 1, 6, -1, -7, 0, 0},
            {-7, -2, -9, -5, 14, 3, -1, -8, -1, 7, 1, 0},
            {1L << 32, 1, (1L << 32) + 1, (1L << 32) - 1, 1L << 32, 1L << 32, 0, 0, (1L << 32) + 1, (1L << 32) + 1, 0, 0},
            {(1L << 32) + 3, 3, (1L << 32) + 6, 1L << 32, 3 * ((1L << 32) + 3), 1431655766, 1, 3, (1L << 32) + 3, 1L << 32, 0, 0},
        };
        PassForge x = Check.with("in v; in w; a = v + w; b = v - w; c = v * w; d = v / w; e = v % w; f = v & w; g = v | w; h = v ^ w; i = v < w; j = v = w;");
        for (long[] row : rows) {
            x.empty();
            x.put(row[0]);
            x.put(row[1]);
            Check.is("steps", x.run(0, 12), 12);
            for (int i = 0; i < 12; i++) {
                Check.is(row[0] + " and " + row[1] + ": " + i, x.variable(i), row[i]);
            }
        }
    }

    /** Promise 16: "stopped by itself (as soon as its last step was done)" */
    private static void stopsWithItsLastStep() {
        stops("out 1;", 1);
        stops("halt;", 1);
        stops("out 1; halt; out 2;", 2);
        stops("out 1; z:", 1);
        stops("goto z; out 1; z:", 1);
        stops("goto z; out 1; z: y: x:", 1);
        stops("if 1 goto z; out 1; z:", 1);
        stops("if 0 goto z; z:", 1);
        stops("if 0 goto z; out 1; z: halt;", 3);
        stops("in a; a = a + 1; out a;", 3);
        PassForge x = Check.with("z: y:");
        Check.is("no step", x.run(0, 1), 0);
        Check.is("stops", x.ran(0), 1);
        PassForge y = Check.with("z: goto z;");
        y.run(0, 5000);
        Check.is("never", y.ran(0), 0);
    }

    private static void stops(String text, int steps) {
        PassForge x = Check.with(text);
        Check.is("steps of " + text, x.run(0, 5000), steps);
        Check.is("stopped: " + text, x.ran(0), 1);
        Check.is("steps of " + text, x.run(0, steps), steps);
        Check.is("stopped with its last step: " + text, x.ran(0), 1);
        if (steps > 1) {
            Check.is("steps of " + text, x.run(0, steps - 1), steps - 1);
            Check.is("not ahead of its last step: " + text, x.ran(0), 0);
        }
    }

    /** Promise 16: "how many it read (also behind the end of the input)" */
    private static void readsBehindTheEnd() {
        PassForge x = Check.with("in a; in b; in c; halt; in d;");
        x.run(0, 9);
        Check.is("three, and none was there", x.ran(2), 3);
        x.put(5);
        x.put(6);
        x.run(0, 9);
        Check.is("three, one behind the end", x.ran(2), 3);
        Check.is("a", x.variable(0), 5);
        Check.is("b", x.variable(1), 6);
        Check.is("c", x.variable(2), 0);
        x.put(7);
        x.put(8);
        x.run(0, 9);
        Check.is("three of four", x.ran(2), 3);
        Check.is("c", x.variable(2), 7);
        x.run(0, 2);
        Check.is("two", x.ran(2), 2);
        PassForge y = Check.with("a = 9; in a; out a; k: in a; goto k;");
        y.run(0, 5000);
        Check.is("0 is read behind the end", y.output(0), 0);
        Check.is("all are counted", y.ran(2), 1 + 2499);
        PassForge z = Check.with("out 1;");
        z.put(1);
        z.run(0, 1);
        Check.is("none", z.ran(2), 0);
    }

    /** Promise 17: "the first 60 are kept, all are counted" */
    private static void putsOutSixty() {
        PassForge x = Check.with("n = 1; k: out n; n = n + 1; goto k;");
        for (int count : new int[] {0, 1, 2, 59, 60, 61, 62, 1666}) {
            x.run(0, 1 + 3 * count);
            Check.is("counted", x.ran(1), count);
            int kept = Math.min(count, 60);
            Check.fails("output(" + kept + ") of " + count, INDEX, () -> x.output(kept));
            Check.fails("output(60) of " + count, INDEX, () -> x.output(60));
            if (count > 0) {
                Check.is("the first of " + count, x.output(0), 1);
                Check.is("the last kept of " + count, x.output(kept - 1), kept);
            }
        }
        PassForge y = Check.with("halt;");
        y.run(0, 1);
        Check.fails("none", INDEX, () -> y.output(0));
    }

    /** Promise 18: 0 to 11, all 0 at first in each run. */
    private static void twelveVariables() {
        StringBuilder set = new StringBuilder();
        StringBuilder tell = new StringBuilder();
        for (char name = 'a'; name <= 'l'; name++) {
            set.append(name).append(" = ").append(100 + name).append(";");
            tell.append("out ").append(name).append(";");
        }
        PassForge x = Check.with(set.toString());
        Check.compile(x, tell.toString());
        Check.compile(x, "halt;");
        x.run(0, 50);
        for (int i = 0; i < 12; i++) {
            Check.is("variable " + i, x.variable(i), 100 + 'a' + i);
        }
        x.run(1, 50);
        for (int i = 0; i < 12; i++) {
            Check.is("0 at first", x.output(i), 0);
            Check.is("at the end", x.variable(i), 0);
        }
        x.run(0, 50);
        x.run(2, 50);
        for (int i = 0; i < 12; i++) {
            Check.is("of the latest run", x.variable(i), 0);
        }
        x.run(0, 3);
        Check.is("set", x.variable(2), 100 + 'c');
        Check.is("not yet set", x.variable(3), 0);
    }

    private static PassForge two(String a, String b) {
        PassForge x = Check.with(a);
        Check.is("compile of " + b, Check.compile(x, b), 0);
        return x;
    }

    /** Promise 19: each input, as the number that it is, "the first number being the highest digit" */
    private static void differOfEveryInput() {
        String read = "in a; in b; in c; in d; ";
        for (int n = 0; n <= 4; n++) {
            for (int v = 1; v <= 5; v++) {
                int inputs = (int) Math.pow(v, n);
                if (inputs > 64) {
                    continue;
                }
                for (int meant = 0; meant < inputs; meant += Math.max(1, inputs / 9)) {
                    tellsApart(read, n, v, meant);
                }
                tellsApart(read, n, v, inputs - 1);
                PassForge x = two(read + numberOf(n, v) + "out s;", read + numberOf(n, v) + "e = s < " + inputs + "; e = 1 - e; s = s + e; out s;");
                Check.is("none of " + inputs, x.differ(0, 1, n, v), -1);
            }
        }
        PassForge y = two(read + "out d;", read + "out 0;");
        Check.is("numbers behind the n", y.differ(0, 1, 3, 4), -1);
        Check.is("the fourth number", y.differ(0, 1, 4, 2), 1);
        PassForge z = two("in a; e = 3 < a; out e;", "out 0;");
        Check.is("up to v - 1", z.differ(0, 1, 1, 4), -1);
        Check.is("up to v - 1", z.differ(0, 1, 1, 5), 4);
        PassForge w = two("in a; e = a < 0; out e;", "out 0;");
        Check.is("from 0", w.differ(0, 1, 2, 5), -1);
    }

    /** Puts into s the number that the input of n numbers is, with the base v. */
    private static String numberOf(int n, int v) {
        StringBuilder text = new StringBuilder("s = 0; ");
        for (int i = 0; i < n; i++) {
            text.append("s = s * ").append(v).append("; s = s + ").append("abcd".charAt(i)).append("; ");
        }
        return text.toString();
    }

    /** Two programs that differ with the input that is meant, and with all behind it. */
    private static void tellsApart(String read, int n, int v, int meant) {
        PassForge x = two(read + "out 1;", read + numberOf(n, v) + "e = s < " + meant + "; out e;");
        Check.is("differ of n " + n + " v " + v, x.differ(0, 1, n, v), meant);
        Check.is("differ of n " + n + " v " + v, x.differ(1, 0, n, v), meant);
    }

    /** Promise 19: "at most 500 steps each", "with which only one of them stops by itself" */
    private static void differWithinFiveHundredSteps() {
        for (int steps : new int[] {498, 499, 500}) {
            Check.is("both stop with " + steps, two(longRun(steps, "1"), "out 1;").differ(0, 1, 0, 1), -1);
            Check.is("other numbers", two(longRun(steps, "1"), "out 2;").differ(0, 1, 0, 1), 0);
            Check.is("steps", Check.with(longRun(steps, "1")).run(0, 5000), steps);
        }
        for (int steps : new int[] {501, 502, 900}) {
            Check.is("one stops", two(longRun(steps, "1"), "out 1;").differ(0, 1, 0, 1), 0);
            Check.is("one stops", two("out 1;", longRun(steps, "1")).differ(0, 1, 0, 1), 0);
            Check.is("none stops", two(longRun(steps, "1"), longRun(steps + 2, "2")).differ(0, 1, 0, 1), -1);
        }
        PassForge x = two("out 1; k: goto k;", "out 2; out 3; k: goto k;");
        Check.is("none stops, whatever they put out", x.differ(0, 1, 2, 5), -1);
    }

    /** A program of so many steps, from 7 on, that puts out one number with its last one. */
    private static String longRun(int steps, String number) {
        int turns = (steps - 2) / 2;
        String more = steps % 2 == 0 ? "" : "b = 1; ";
        return "a = " + turns + "; " + more + "k: a = a - 1; if a goto k; out " + number + ";";
    }

    /** Promise 19: "put out other numbers (the first 60 are looked at, and how many there are)" */
    private static void differByWhatIsPutOut() {
        String count = "n = #; k: out 7; n = n - 1; if n goto k; ";
        for (int ahead : new int[] {1, 2, 58, 59}) {
            String text = count.replace("#", String.valueOf(ahead));
            Check.is("another number behind " + ahead, two(text + "out 1;", text + "out 2;").differ(0, 1, 0, 1), 0);
            Check.is("the same behind " + ahead, two(text + "out 1;", text + "out 1; a = 3;").differ(0, 1, 0, 1), -1);
            Check.is("one more behind " + ahead, two(text, text + "out 7;").differ(0, 1, 0, 1), 0);
        }
        for (int ahead : new int[] {60, 61, 100}) {
            String text = count.replace("#", String.valueOf(ahead));
            Check.is("another number behind " + ahead, two(text + "out 1;", text + "out 2;").differ(0, 1, 0, 1), -1);
            Check.is("one more behind " + ahead, two(text, text + "out 7;").differ(0, 1, 0, 1), 0);
        }
        Check.is("another order", two("out 1; out 2;", "out 2; out 1;").differ(0, 1, 0, 1), 0);
        Check.is("none and one", two("a = 1;", "out 0;").differ(0, 1, 0, 1), 0);
        Check.is("the same low half", two("a = 65536 * 65536; out a;", "out 0;").differ(0, 1, 0, 1), 0);
        Check.is("variables are not looked at", two("a = 1; in b;", "halt;").differ(0, 1, 2, 3), -1);
        PassForge x = two("out 1; out 2;", "out 1; out 2;");
        Check.is("a program and itself", x.differ(1, 1, 3, 4), -1);
    }

    /** Promise 20: "the steps of b with all these inputs, divided by those of a (at most 500 steps each); 1 if a has none" */
    private static void shareOfAllInputs() {
        String loop = "in n; k: if n goto m; halt; m: n = n - 1; goto k;";
        for (int v = 1; v <= 5; v++) {
            // with n turns: in, n times if, minus and goto, then if and halt
            int steps = 0;
            for (int n = 0; n < v; n++) {
                steps += 3 + 3 * n;
            }
            Check.same("share, v " + v, two(loop, "halt;").share(0, 1, 1, v), v / (double) steps);
            Check.same("share, v " + v, two("halt;", loop).share(0, 1, 1, v), steps / (double) v);
        }
        Check.same("64 inputs", two("halt;", "k: goto k;").share(0, 1, 3, 4), 500.0);
        Check.same("500 steps of 501", two("halt;", longRun(501, "1")).share(0, 1, 0, 5), 500.0);
        Check.same("500 steps", two("halt;", longRun(500, "1")).share(0, 1, 0, 5), 500.0);
        Check.same("499 steps", two("halt;", longRun(499, "1")).share(0, 1, 0, 5), 499.0);
        Check.same("both for ever", two("k: goto k;", "k: out 1; goto k;").share(0, 1, 4, 2), 1.0);
        Check.same("a has none", two("k:", "halt;").share(0, 1, 2, 2), 1.0);
        Check.same("none has one", two("k:", "m: k:").share(0, 1, 2, 2), 1.0);
        Check.same("b has none", two("halt;", "k:").share(0, 1, 2, 2), 0.0);
        Check.same("a third", two("out 1; out 2; out 3;", "halt;").share(0, 1, 0, 1), 1.0 / 3.0);
        PassForge x = two("in a; in b; if b goto z; halt; z:", "in a; if a goto z; halt; z:");
        Check.same("inputs of two numbers", x.share(0, 1, 2, 3), (3 * 3 + 6 * 2) / (double) (3 * 4 + 6 * 3));
    }

    /** differ() and share() begin with their first input each, use no input of their own, and leave the latest run. */
    private static void comparingIsForItself() {
        PassForge x = two("in a; in b; in c; out c;", "in a; in b; in c; out 0;");
        Check.compile(x, "in a; k: if a goto m; halt; m: a = a - 1; goto k;");
        x.put(3);
        x.put(4);
        x.put(5);
        Check.is("never ran", x.differ(0, 1, 2, 5), -1);
        Check.is("ran(0) without a run", x.ran(0), 0);
        Check.is("ran(2) without a run", x.ran(2), 0);
        Check.fails("output without a run", INDEX, () -> x.output(0));
        Check.is("run", x.run(0, 9), 4);
        Check.is("found early", x.differ(0, 1, 3, 4), 1);
        Check.same("share begins at 0", x.share(2, 0, 1, 2), 8.0 / 9.0);
        Check.is("differ begins at 0", x.differ(0, 1, 3, 4), 1);
        Check.is("differ begins at 0", x.differ(0, 1, 0, 1), -1);
        Check.is("found early", x.differ(0, 1, 3, 4), 1);
        Check.is("differ of fewer numbers", x.differ(0, 1, 2, 4), -1);
        Check.compile(x, "in a; in b; b = a < 3; out b;");
        Check.compile(x, "out 1;");
        Check.is("found late", x.differ(3, 4, 2, 5), 15);
        Check.same("share begins at 0", x.share(2, 0, 1, 2), 8.0 / 9.0);
        Check.is("found late", x.differ(3, 4, 2, 5), 15);
        Check.is("differ begins at 0", x.differ(3, 4, 1, 2), -1);
        Check.is("ran(0)", x.ran(0), 1);
        Check.is("ran(1)", x.ran(1), 1);
        Check.is("ran(2)", x.ran(2), 3);
        Check.is("output", x.output(0), 5);
        Check.is("variable", x.variable(1), 4);
        Check.is("the input stays", x.empty(), 3);
    }

    /** Promise 21: "d becomes d * 31 + x, which wraps around as a 64-bit integer" */
    private static void digestWrapsAround() {
        long empty = 401;
        for (int i = 0; i < 18; i++) {
            empty *= 31;
        }
        PassForge x = new PassForge();
        Check.is("a new object", x.digest(), empty);
        // behind 401: the number of programs, of bytes, of the input; each number put then has 15 behind it
        long behind = 1;
        for (int i = 0; i < 15; i++) {
            behind *= 31;
        }
        x.put(1);
        Check.is("one number", x.digest(), 31 * empty + 31 * behind + behind);
        x.empty();
        x.put(Long.MAX_VALUE);
        Check.is("the greatest number", x.digest(), 31 * empty + 31 * behind + Long.MAX_VALUE * behind);
        x.empty();
        x.put(Long.MIN_VALUE);
        Check.is("the least number", x.digest(), 31 * empty + 31 * behind + Long.MIN_VALUE * behind);
        x.empty();
        x.feed(0, 0, 0, 0, 0);
        Check.is("20 bytes", x.digest(), empty + 20 * 31 * behind);
        Check.feed(x, "$");
        x.compile();
        Check.is("an error is nothing of it", x.digest(), empty);
    }
}
