/** Promises 13 to 20: put, empty, run, ran, output, variable, differ, share. */
public final class RunTest {
    private static final Class<?> INDEX = IndexOutOfBoundsException.class;
    private static final Class<?> ARGUMENT = IllegalArgumentException.class;

    public static void main(String[] args) {
        input();
        reckoning();
        steps();
        stopping();
        labelsAreNoSteps();
        reading();
        outputs();
        variables();
        inputStays();
        wrongRuns();
        differs();
        differsInOrder();
        differAtTheLimits();
        differWrongly();
        shares();
        shareWrongly();
        comparedRunsDoNotCount();
        Check.end("RunTest");
    }

    private static void input() {
        PassForge x = new PassForge();
        for (int i = 1; i <= 30; i++) {
            Check.is("put", x.put(i == 1 ? Long.MIN_VALUE : i), i);
        }
        Check.fails("a 31st number", IllegalStateException.class, () -> x.put(1));
        Check.is("empty", x.empty(), 30);
        Check.is("empty again", x.empty(), 0);
        Check.is("put behind empty", x.put(5), 1);
        Check.compile(x, "in a; out a; in a; out a;");
        x.run(0, 10);
        Check.is("what was put", x.output(0), 5);
        Check.is("nothing behind it", x.output(1), 0);
    }

    /** What op makes of two numbers of the input. */
    private static void reckoned(long v, String op, long w, long due) {
        PassForge x = Check.with("in v; in w; x = v " + op + " w; out x;");
        x.put(v);
        x.put(w);
        Check.is("steps", x.run(0, 10), 4);
        Check.is(v + " " + op + " " + w, x.output(0), due);
    }

    private static void reckoning() {
        long least = Long.MIN_VALUE;
        long most = Long.MAX_VALUE;
        reckoned(7, "+", -9, -2);
        reckoned(most, "+", 1, least);
        reckoned(least, "-", 1, most);
        reckoned(most, "*", 2, -2);
        reckoned(1L << 40, "*", 1L << 40, 0);
        reckoned(-7, "/", 2, -3);
        reckoned(7, "/", -2, -3);
        reckoned(7, "/", 0, 0);
        reckoned(least, "/", -1, least);
        reckoned(-7, "%", 2, -1);
        reckoned(7, "%", -2, 1);
        reckoned(7, "%", 0, 0);
        reckoned(least, "%", -1, 0);
        reckoned(-1, "&", 0xff00L, 0xff00L);
        reckoned(5, "|", 1L << 60, 5 + (1L << 60));
        reckoned(-1, "^", 1, -2);
        reckoned(-1, "<", 0, 1);
        reckoned(0, "<", -1, 0);
        reckoned(3, "<", 3, 0);
        reckoned(least, "<", most, 1);
        reckoned(3, "=", 3, 1);
        reckoned(3, "=", 1L << 32 | 3, 0);
    }

    private static void steps() {
        PassForge x = Check.with("n = 3; l: s = s + n; n = n - 1; if n goto l; out s; halt; out 9;");
        Check.is("all steps", x.run(0, 5000), 12);
        Check.is("stopped", x.ran(0), 1);
        Check.is("one number", x.ran(1), 1);
        Check.is("the sum", x.output(0), 6);
        Check.is("n", x.variable(0), 0);
        Check.is("s", x.variable(1), 6);
        Check.is("some steps", x.run(0, 5), 5);
        Check.is("not stopped", x.ran(0), 0);
        Check.is("nothing put out", x.ran(1), 0);
        Check.is("n in between", x.variable(0), 2);
        Check.is("an if with a number", Check.with("if -1 goto l; out 1; l:").run(0, 9), 1);
        Check.is("an if with 0", Check.with("if 0 goto l; out 1; l:").run(0, 9), 2);
    }

    private static void stopping() {
        PassForge x = Check.with("out 1; out 2;");
        x.run(0, 1);
        Check.is("not yet", x.ran(0), 0);
        x.run(0, 2);
        Check.is("as soon as the last step was done", x.ran(0), 1);
        PassForge y = Check.with("out 1; halt; out 2;");
        y.run(0, 1);
        Check.is("halt is a step", y.ran(0), 0);
        Check.is("two steps", y.run(0, 2), 2);
        Check.is("behind halt", y.ran(0), 1);
        PassForge z = Check.with("l: goto l;");
        Check.is("for ever", z.run(0, 5000), 5000);
        Check.is("never by itself", z.ran(0), 0);
        PassForge none = Check.with("a = 1;");
        none.pass(0, 3);
        Check.is("an empty program", none.run(1, 1), 0);
        Check.is("stops by itself", none.ran(0), 1);
    }

    private static void labelsAreNoSteps() {
        PassForge x = Check.with("a: b: c:");
        Check.is("labels alone", x.run(0, 1), 0);
        Check.is("stop by themselves", x.ran(0), 1);
        PassForge y = Check.with("a: out 1; b: c: goto d; out 2; d: e:");
        Check.is("labels between", y.run(0, 2), 2);
        Check.is("labels at the end", y.ran(0), 1);
        Check.is("one number", y.ran(1), 1);
    }

    private static void reading() {
        PassForge x = Check.with("in a; in b; in a; in c;");
        x.put(4);
        x.put(5);
        x.run(0, 10);
        Check.is("read, also behind the end", x.ran(2), 4);
        Check.is("0 behind the end", x.variable(0), 0);
        Check.is("the second", x.variable(1), 5);
        x.run(0, 1);
        Check.is("read one", x.ran(2), 1);
        Check.is("the first", x.variable(0), 4);
    }

    private static void outputs() {
        PassForge x = Check.with("n = 70; l: out n; n = n - 1; if n goto l;");
        x.run(0, 5000);
        Check.is("all are counted", x.ran(1), 70);
        Check.is("the first", x.output(0), 70);
        Check.is("the last that is kept", x.output(59), 11);
        Check.fails("the first that is not", INDEX, () -> x.output(60));
        Check.fails("below", INDEX, () -> x.output(-1));
        Check.fails("far below", INDEX, () -> x.output(Integer.MIN_VALUE));
        Check.fails("far beyond", INDEX, () -> x.output(Integer.MAX_VALUE));
        x.run(0, 4);
        Check.is("one of the latest run", x.ran(1), 1);
        Check.fails("none of an older run", INDEX, () -> x.output(1));
        PassForge y = Check.with("n = 59; l: out n; n = n - 1; if n goto l; out -1;");
        y.run(0, 5000);
        Check.is("sixty", y.ran(1), 60);
        Check.is("the sixtieth", y.output(59), -1);
    }

    private static void variables() {
        PassForge x = Check.with("a = 7; b = c;");
        Check.is("before a run", x.variable(0), 0);
        x.run(0, 10);
        Check.is("a", x.variable(0), 7);
        Check.is("b", x.variable(1), 0);
        Check.is("one that the program has not", x.variable(11), 0);
        Check.compile(x, "out a; a = 3;");
        x.run(1, 1);
        Check.is("0 at first", x.output(0), 0);
        Check.is("not of an older run", x.variable(0), 0);
        for (int wrong : new int[] {-1, 12, Integer.MIN_VALUE, Integer.MAX_VALUE}) {
            Check.fails("variable " + wrong, INDEX, () -> x.variable(wrong));
        }
        for (int wrong : new int[] {-1, 3, Integer.MIN_VALUE, Integer.MAX_VALUE}) {
            Check.fails("ran " + wrong, INDEX, () -> x.ran(wrong));
        }
    }

    private static void inputStays() {
        PassForge x = Check.with("in a; out a;");
        x.put(9);
        x.run(0, 10);
        x.run(0, 10);
        Check.is("a run reads from the first number on", x.output(0), 9);
        Check.is("and leaves the input", x.empty(), 1);
        x.run(0, 10);
        Check.is("an empty input", x.output(0), 0);
    }

    private static void wrongRuns() {
        PassForge x = Check.with("out 1;");
        x.run(0, 3);
        long before = x.digest();
        for (int wrong : new int[] {-1, 1, 12, Integer.MIN_VALUE, Integer.MAX_VALUE}) {
            Check.fails("run of " + wrong, INDEX, () -> x.run(wrong, 1));
            Check.fails("program before most", INDEX, () -> x.run(wrong, 0));
        }
        for (int wrong : new int[] {0, -1, 5001, Integer.MIN_VALUE, Integer.MAX_VALUE}) {
            Check.fails("most " + wrong, ARGUMENT, () -> x.run(0, wrong));
        }
        Check.is("nothing changed", x.digest(), before);
        Check.is("most 5000", x.run(0, 5000), 1);
    }

    /** A workshop with two programs. */
    private static PassForge two(String a, String b) {
        PassForge x = Check.with(a);
        Check.is("compile of " + b, Check.compile(x, b), 0);
        return x;
    }

    private static void differ(String a, String b, int n, int v, int due) {
        PassForge x = two(a, b);
        Check.is("differ(0, 1, " + n + ", " + v + ") of " + a + " / " + b, x.differ(0, 1, n, v), due);
        Check.is("differ(1, 0, " + n + ", " + v + ") of " + a + " / " + b, x.differ(1, 0, n, v), due);
        Check.is("differ(0, 0)", x.differ(0, 0, n, v), -1);
    }

    private static void differs() {
        differ("out 1;", "out 1; halt;", 0, 1, -1);
        differ("out 1;", "out 2;", 0, 1, 0);
        differ("out 1;", "out 1; out 1;", 0, 1, 0);
        differ("out 1;", "x = 1; out x;", 0, 5, -1);
        differ("x = 1;", "x = 2;", 2, 3, -1);
        differ("in x; out x;", "in x; y = x; out y;", 3, 4, -1);
        differ("l: goto l;", "halt;", 0, 1, 0);
        differ("l: goto l;", "l: out 1; goto l;", 1, 5, -1);
        differ("in x; l: if x goto l; out 3;", "in x; out 3;", 1, 5, 1);
        differ("in x; l: if x goto l; out 3;", "in x; l: if x goto l; out 4;", 1, 5, 0);
    }

    private static void differsInOrder() {
        String plain = "in a; in b; in c; out a;";
        differ(plain, "in a; in b; in c; if a goto l; out a; halt; l: out 7;", 3, 4, 16);
        differ(plain, "in a; in b; in c; if b goto l; out a; halt; l: out 7;", 3, 4, 4);
        differ(plain, "in a; in b; in c; if c goto l; out a; halt; l: out 7;", 3, 4, 1);
        differ("in a; in b; out b;", "in a; in b; s = a * 5; s = s + b; e = s = 19; if e goto l; out b; halt; l: out 7;", 2, 5, 19);
        differ("in a; in b; out b;", "in a; in b; s = a * 5; s = s + b; e = s = 19; if e goto l; out b; halt; l: out 7;", 2, 4, -1);
        differ("in a; in b; out b;", "in a; in b; if b goto l; out b; halt; l: out 7;", 1, 5, -1);
        differ("in a; out a;", "out 0;", 1, 1, -1);
        differ("in a; in b; in c; in d; out d;", "out 0;", 4, 2, 1);
    }

    private static void differAtTheLimits() {
        // n runs of the loop are 1 + 2 n steps, and one for the out
        differ("n = 249; l: n = n - 1; if n goto l; out 1;", "out 1;", 0, 1, -1);
        differ("n = 249; l: n = n - 1; if n goto l; out 1; out 1;", "out 1; out 1;", 0, 1, 0);
        String sixty = "n = 60; l: out n; n = n - 1; if n goto l;";
        differ(sixty + "out 1;", sixty + "out 2;", 0, 1, -1);
        differ(sixty + "out 1;", sixty + "out 1; out 1;", 0, 1, 0);
        String fiftyNine = "n = 59; l: out n; n = n - 1; if n goto l;";
        differ(fiftyNine + "out 1;", fiftyNine + "out 2;", 0, 1, 0);
        PassForge x = two("in a; in b; in c; out c;", "in a; in b; in c; out c;");
        Check.is("64 inputs", x.differ(0, 1, 3, 4), -1);
        Check.is("25 inputs", x.differ(0, 1, 2, 5), -1);
        Check.is("16 inputs", x.differ(0, 1, 4, 2), -1);
        Check.is("one input", x.differ(0, 1, 4, 1), -1);
    }

    private static void differWrongly() {
        PassForge x = two("out 1;", "out 1;");
        long before = x.digest();
        for (int wrong : new int[] {-1, 2, 12, Integer.MIN_VALUE, Integer.MAX_VALUE}) {
            Check.fails("a is " + wrong, INDEX, () -> x.differ(wrong, 0, 1, 1));
            Check.fails("b is " + wrong, INDEX, () -> x.differ(0, wrong, 1, 1));
            Check.fails("program before n", INDEX, () -> x.differ(0, wrong, 9, 9));
        }
        for (int wrong : new int[] {-1, 5, Integer.MIN_VALUE, Integer.MAX_VALUE}) {
            Check.fails("n is " + wrong, ARGUMENT, () -> x.differ(0, 1, wrong, 1));
        }
        for (int wrong : new int[] {0, -1, 6, Integer.MIN_VALUE, Integer.MAX_VALUE}) {
            Check.fails("v is " + wrong, ARGUMENT, () -> x.differ(0, 1, 0, wrong));
        }
        Check.fails("81 inputs", ARGUMENT, () -> x.differ(0, 1, 4, 3));
        Check.fails("125 inputs", ARGUMENT, () -> x.differ(0, 1, 3, 5));
        Check.is("nothing changed", x.digest(), before);
    }

    private static void share(String a, String b, int n, int v, double due) {
        Check.same("share(0, 1, " + n + ", " + v + ") of " + a + " / " + b, two(a, b).share(0, 1, n, v), due);
    }

    private static void shares() {
        share("out 1; out 2;", "out 1;", 0, 1, 0.5);
        share("out 1;", "out 1; out 2; out 3;", 3, 4, 3.0);
        share("in x; if x goto l; out 1; l:", "in x;", 1, 2, 2.0 / 5.0);
        share("l: goto l;", "out 1;", 0, 3, 1.0 / 500.0);
        share("out 1;", "l: goto l;", 2, 2, 500.0);
        share("in n; l: if n goto m; halt; m: n = n - 1; goto l;", "in n;", 1, 4, 4.0 / 30.0);
        share("l:", "out 1;", 2, 2, 1.0);
        share("out 1;", "l:", 2, 2, 0.0);
        share("l:", "l:", 2, 2, 1.0);
    }

    private static void shareWrongly() {
        PassForge x = two("out 1;", "out 1;");
        for (int wrong : new int[] {-1, 2, 12, Integer.MIN_VALUE, Integer.MAX_VALUE}) {
            Check.fails("a is " + wrong, INDEX, () -> x.share(wrong, 0, 1, 1));
            Check.fails("b is " + wrong, INDEX, () -> x.share(0, wrong, 1, 1));
            Check.fails("program before n", INDEX, () -> x.share(0, wrong, 9, 9));
        }
        for (int wrong : new int[] {-1, 5, Integer.MIN_VALUE, Integer.MAX_VALUE}) {
            Check.fails("n is " + wrong, ARGUMENT, () -> x.share(0, 1, wrong, 1));
        }
        for (int wrong : new int[] {0, -1, 6, Integer.MIN_VALUE, Integer.MAX_VALUE}) {
            Check.fails("v is " + wrong, ARGUMENT, () -> x.share(0, 1, 0, wrong));
        }
        Check.fails("81 inputs", ARGUMENT, () -> x.share(0, 1, 4, 3));
        Check.fails("625 inputs", ARGUMENT, () -> x.share(0, 1, 4, 5));
        Check.is("64 inputs", (long) x.share(0, 1, 3, 4), 1);
    }

    private static void comparedRunsDoNotCount() {
        PassForge x = two("in a; out a; in a; b = 8;", "l: goto l;");
        x.put(77);
        x.run(0, 10);
        x.differ(0, 1, 2, 2);
        x.share(1, 0, 2, 2);
        Check.is("stopped", x.ran(0), 1);
        Check.is("numbers", x.ran(1), 1);
        Check.is("reads", x.ran(2), 2);
        Check.is("output", x.output(0), 77);
        Check.is("variable", x.variable(1), 8);
        Check.is("the input stays", x.empty(), 1);
    }
}
