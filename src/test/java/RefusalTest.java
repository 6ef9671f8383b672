import java.util.concurrent.Callable;

/**
 * "A method that throws an exception changes nothing. If several exceptions apply, the one that is named first is thrown."
 * For every method that throws: each exception by itself, on both sides of its limits, and all that can apply at once.
 */
public final class RefusalTest {
    private static final Class<?> INDEX = IndexOutOfBoundsException.class;
    private static final Class<?> ARGUMENT = IllegalArgumentException.class;
    private static final Class<?> STATE = IllegalStateException.class;

    private static final int[] FAR = {Integer.MIN_VALUE, Integer.MIN_VALUE + 1, -1000000, -81, -13, -2, -1, 1000000, Integer.MAX_VALUE - 1, Integer.MAX_VALUE};
    private static final int BLANKS = 0x20202020;

    public static void main(String[] args) {
        newObject();
        feed();
        trim();
        compile();
        count();
        codeNumberLive();
        instructionsOfEachProgram();
        pass();
        better();
        put();
        run();
        ranOutputVariable();
        differAndShare();
        Check.end("RefusalTest");
    }

    /** A call throws, and all that the object tells is as it was. */
    private static void refused(PassForge x, String what, Class<?> due, Callable<?> call) {
        long before = x.digest();
        int errorBefore = x.errorAt();
        Check.fails(what, due, call);
        Check.is("digest behind " + what, x.digest(), before);
        Check.is("errorAt behind " + what, x.errorAt(), errorBefore);
    }

    /** Two programs, an error, 13 bytes, three numbers, and a run that was cut off. */
    private static PassForge worked() {
        PassForge x = Check.with("k: in a; out a; b = a * 2; goto k; halt;");
        Check.compile(x, "out 1; out 2; halt;");
        Check.is("an error", Check.compile(x, "out 1; goto z;"), 3);
        Check.feed(x, "a=1;out a+b;;");
        x.put(4);
        x.put(-5);
        x.put(6);
        Check.is("a run", x.run(0, 9), 9);
        return x;
    }

    /** A workshop with 12 programs, the first of them as in worked(). */
    private static PassForge full() {
        PassForge x = worked();
        for (int i = 2; i < 12; i++) {
            Check.is("pass", x.pass(1, 0), 0);
        }
        Check.is("12 programs", x.programs(), 12);
        return x;
    }

    private static void newObject() {
        PassForge x = new PassForge();
        refused(x, "trim(1)", ARGUMENT, () -> x.trim(1));
        refused(x, "count(0, 0)", INDEX, () -> x.count(0, 0));
        refused(x, "code(0, 0, 0)", INDEX, () -> x.code(0, 0, 0));
        refused(x, "number(0, 0, false)", INDEX, () -> x.number(0, 0, false));
        refused(x, "live(0, 0)", INDEX, () -> x.live(0, 0));
        refused(x, "pass(0, 0)", INDEX, () -> x.pass(0, 0));
        refused(x, "better(0)", INDEX, () -> x.better(0));
        refused(x, "run(0, 1)", INDEX, () -> x.run(0, 1));
        refused(x, "output(0)", INDEX, () -> x.output(0));
        refused(x, "differ(0, 0, 0, 1)", INDEX, () -> x.differ(0, 0, 0, 1));
        refused(x, "share(0, 0, 0, 1)", INDEX, () -> x.share(0, 0, 0, 1));
        Check.is("trim(0)", x.trim(0), 0);
        Check.is("an empty text", x.compile(), 1);
    }

    private static void feed() {
        PassForge x = worked();
        Check.feed(x, "a=1;" + " ".repeat(1596));
        refused(x, "feed to 1620", STATE, () -> x.feed(-1, -1, -1, -1, -1));
        x.trim(1599);
        refused(x, "feed to 1619", STATE, () -> x.feed(0, 0, 0, 0, 0));
        x.trim(1581);
        refused(x, "feed to 1601", STATE, () -> x.feed(0, 0, 0, 0, 0));
        x.trim(1580);
        Check.is("feed to 1600", x.feed(BLANKS, BLANKS, BLANKS, BLANKS, BLANKS), 1600);
        refused(x, "feed to 1620", STATE, () -> x.feed(0, 0, 0, 0, 0));
        Check.is("the text is as it was", x.compile(), 0);
        Check.same("the text is as it was", Check.show(x, 2, "a"), "a = 1;");
        Check.is("feed behind compile", x.feed(BLANKS, BLANKS, BLANKS, BLANKS, BLANKS), 20);
    }

    private static void trim() {
        PassForge x = worked();
        refused(x, "trim(14)", ARGUMENT, () -> x.trim(14));
        for (int n : FAR) {
            refused(x, "trim(" + n + ")", ARGUMENT, () -> x.trim(n));
        }
        Check.is("trim(13)", x.trim(13), 13);
        Check.is("trim(12)", x.trim(12), 12);
        refused(x, "trim(13)", ARGUMENT, () -> x.trim(13));
        Check.is("trim(4)", x.trim(4), 4);
        refused(x, "trim(5)", ARGUMENT, () -> x.trim(5));
        Check.is("the text is as it was", x.compile(), 0);
        Check.same("the text is as it was", Check.show(x, 2, "a"), "a = 1;");
        refused(x, "trim(1) behind compile", ARGUMENT, () -> x.trim(1));
        Check.is("trim(0)", x.trim(0), 0);
        refused(x, "trim(-1)", ARGUMENT, () -> x.trim(-1));
    }

    /** Even of a text with an error, and of none; the error of the compile ahead stays. */
    private static void compile() {
        PassForge x = full();
        Check.is("errorAt", x.errorAt(), 12);
        refused(x, "compile", STATE, x::compile);
        Check.is("the tape stays", x.trim(13), 13);
        x.trim(0);
        refused(x, "compile of an empty tape", STATE, x::compile);
        Check.feed(x, "$");
        refused(x, "compile of an error", STATE, x::compile);
        Check.is("errorAt", x.errorAt(), 12);
        Check.is("programs", x.programs(), 12);
    }

    private static void count() {
        PassForge x = worked();
        refused(x, "count(2, 0)", INDEX, () -> x.count(2, 0));
        refused(x, "count(2, 6)", INDEX, () -> x.count(2, 6));
        refused(x, "count(0, 6)", INDEX, () -> x.count(0, 6));
        for (int far : FAR) {
            refused(x, "count(" + far + ", 0)", INDEX, () -> x.count(far, 0));
            refused(x, "count(1, " + far + ")", INDEX, () -> x.count(1, far));
            refused(x, "count(" + far + ", " + far + ")", INDEX, () -> x.count(far, far));
        }
        for (int what = 0; what <= 5; what++) {
            Check.is("count(1, " + what + ")", x.count(1, what), new int[] {3, 0, 0, 1, 0, 0}[what]);
        }
    }

    private static void codeNumberLive() {
        PassForge x = worked();
        for (int program : new int[] {-1, 2, 11, 12, Integer.MIN_VALUE, Integer.MAX_VALUE}) {
            refused(x, "code(" + program + ", 0, 0)", INDEX, () -> x.code(program, 0, 0));
            refused(x, "number(" + program + ", 0, true)", INDEX, () -> x.number(program, 0, true));
            refused(x, "live(" + program + ", 0)", INDEX, () -> x.live(program, 0));
        }
        for (int i : new int[] {-1, 3, 4, 5, 79, 80, 81, Integer.MIN_VALUE, Integer.MAX_VALUE}) {
            refused(x, "code(1, " + i + ", 0)", INDEX, () -> x.code(1, i, 0));
            refused(x, "number(1, " + i + ", false)", INDEX, () -> x.number(1, i, false));
            refused(x, "live(1, " + i + ")", INDEX, () -> x.live(1, i));
        }
        for (int what : new int[] {-1, 5, Integer.MIN_VALUE, Integer.MAX_VALUE}) {
            refused(x, "code(1, 0, " + what + ")", INDEX, () -> x.code(1, 0, what));
            refused(x, "code(1, 3, " + what + ")", INDEX, () -> x.code(1, 3, what));
        }
        Check.is("the last instruction", x.code(1, 2, 0), 7);
        Check.is("the last what", x.code(1, 2, 4), -1);
    }

    /** The instructions of the program that is meant count, not those of another. */
    private static void instructionsOfEachProgram() {
        PassForge x = Check.with("halt;".repeat(80));
        Check.compile(x, "halt;");
        x.pass(0, 3);
        Check.is("the 80th", x.code(0, 79, 0), 7);
        Check.is("the 80th", x.live(0, 79), 0);
        Check.is("the 80th", x.number(0, 79, true), 0);
        Check.fails("the 81st", INDEX, () -> x.code(0, 80, 0));
        Check.fails("the 81st", INDEX, () -> x.live(0, 80));
        Check.fails("the 81st", INDEX, () -> x.number(0, 80, true));
        for (int program = 1; program <= 2; program++) {
            int p = program;
            Check.is("the first", x.code(p, 0, 0), 7);
            Check.fails("the second of " + p, INDEX, () -> x.code(p, 1, 0));
            Check.fails("the second of " + p, INDEX, () -> x.live(p, 1));
            Check.fails("the second of " + p, INDEX, () -> x.number(p, 1, false));
        }
    }

    private static void pass() {
        PassForge x = worked();
        refused(x, "pass(2, 0)", INDEX, () -> x.pass(2, 0));
        refused(x, "pass(2, 5)", INDEX, () -> x.pass(2, 5));
        refused(x, "pass(-1, -1)", INDEX, () -> x.pass(-1, -1));
        refused(x, "pass(1, 5)", ARGUMENT, () -> x.pass(1, 5));
        for (int far : FAR) {
            refused(x, "pass(" + far + ", 0)", INDEX, () -> x.pass(far, 0));
            refused(x, "pass(1, " + far + ")", ARGUMENT, () -> x.pass(1, far));
            refused(x, "pass(" + far + ", " + far + ")", INDEX, () -> x.pass(far, far));
        }
        Check.is("pass(1, 4)", x.pass(1, 4), 0);
        PassForge y = full();
        refused(y, "no room", STATE, () -> y.pass(11, 4));
        refused(y, "no room", STATE, () -> y.pass(0, 0));
        refused(y, "no pass, no room", ARGUMENT, () -> y.pass(0, 5));
        refused(y, "no pass, no room", ARGUMENT, () -> y.pass(0, -1));
        refused(y, "no program, no room", INDEX, () -> y.pass(12, 0));
        refused(y, "no program, no room", INDEX, () -> y.pass(-1, 0));
        refused(y, "no program, no pass, no room", INDEX, () -> y.pass(12, 5));
    }

    private static void better() {
        PassForge x = worked();
        refused(x, "better(2)", INDEX, () -> x.better(2));
        for (int far : FAR) {
            refused(x, "better(" + far + ")", INDEX, () -> x.better(far));
        }
        Check.is("better(1)", x.better(1), 0);
        PassForge y = full();
        refused(y, "no room", STATE, () -> y.better(0));
        refused(y, "no room", STATE, () -> y.better(11));
        refused(y, "no program, no room", INDEX, () -> y.better(12));
        refused(y, "no program, no room", INDEX, () -> y.better(-1));
    }

    private static void put() {
        PassForge x = worked();
        for (int i = 4; i <= 30; i++) {
            Check.is("put", x.put(i), i);
        }
        refused(x, "a 31st number", STATE, () -> x.put(0));
        refused(x, "a 31st number", STATE, () -> x.put(Long.MIN_VALUE));
        Check.is("empty", x.empty(), 30);
        Check.is("put", x.put(1), 1);
    }

    private static void run() {
        PassForge x = worked();
        refused(x, "run(2, 1)", INDEX, () -> x.run(2, 1));
        refused(x, "run(2, 0)", INDEX, () -> x.run(2, 0));
        refused(x, "run(-1, 5001)", INDEX, () -> x.run(-1, 5001));
        refused(x, "run(1, 0)", ARGUMENT, () -> x.run(1, 0));
        refused(x, "run(1, 5001)", ARGUMENT, () -> x.run(1, 5001));
        for (int far : FAR) {
            refused(x, "run(" + far + ", 1)", INDEX, () -> x.run(far, 1));
            refused(x, "run(1, " + far + ")", ARGUMENT, () -> x.run(1, far));
            refused(x, "run(" + far + ", " + far + ")", INDEX, () -> x.run(far, far));
        }
        Check.is("the latest run stays", x.variable(1), -10);
        Check.is("run(0, 5000)", x.run(0, 5000), 5000);
        Check.is("run(0, 1)", x.run(0, 1), 1);
    }

    private static void ranOutputVariable() {
        PassForge x = worked();
        Check.is("numbers put out", x.ran(1), 2);
        refused(x, "ran(3)", INDEX, () -> x.ran(3));
        refused(x, "output(2)", INDEX, () -> x.output(2));
        refused(x, "variable(12)", INDEX, () -> x.variable(12));
        for (int far : FAR) {
            refused(x, "ran(" + far + ")", INDEX, () -> x.ran(far));
            refused(x, "output(" + far + ")", INDEX, () -> x.output(far));
            refused(x, "variable(" + far + ")", INDEX, () -> x.variable(far));
        }
        Check.is("ran(2)", x.ran(2), 3);
        Check.is("output(1)", x.output(1), -5);
        Check.is("variable(11)", x.variable(11), 0);
    }

    private static void compared(PassForge x, int a, int b, int n, int v, Class<?> due) {
        String what = "(" + a + ", " + b + ", " + n + ", " + v + ")";
        refused(x, "differ" + what, due, () -> x.differ(a, b, n, v));
        refused(x, "share" + what, due, () -> x.share(a, b, n, v));
    }

    private static void differAndShare() {
        PassForge x = worked();
        compared(x, 2, 0, 1, 1, INDEX);
        compared(x, 0, 2, 1, 1, INDEX);
        compared(x, -1, 0, 1, 1, INDEX);
        compared(x, 0, -1, 1, 1, INDEX);
        compared(x, 0, 2, 5, 1, INDEX);
        compared(x, 2, 0, 1, 6, INDEX);
        compared(x, 2, 2, 4, 5, INDEX);
        compared(x, 0, 1, 5, 1, ARGUMENT);
        compared(x, 0, 1, -1, 1, ARGUMENT);
        compared(x, 0, 1, 0, 0, ARGUMENT);
        compared(x, 0, 1, 0, 6, ARGUMENT);
        compared(x, 0, 1, 5, 0, ARGUMENT);
        compared(x, 0, 1, 1, 6, ARGUMENT);
        for (int[] tooMany : new int[][] {{3, 5}, {4, 3}, {4, 4}, {4, 5}}) {
            compared(x, 0, 1, tooMany[0], tooMany[1], ARGUMENT);
            compared(x, 0, 2, tooMany[0], tooMany[1], INDEX);
        }
        for (int far : FAR) {
            PassForge y = worked();
            compared(y, far, 0, 1, 1, INDEX);
            compared(y, 0, far, 1, 1, INDEX);
            compared(y, 0, 0, far, 1, ARGUMENT);
            compared(y, 0, 0, 0, far, ARGUMENT);
            compared(y, 0, far, far, far, INDEX);
        }
    }
}
