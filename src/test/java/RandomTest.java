import java.util.concurrent.Callable;

/** Promises 1 to 21: long runs of thrown calls, compared with the Oracle, which says the document once more. */
public final class RandomTest {
    private static final int RUNS = 400;
    private static final int CALLS = 300;

    private final Dice dice;
    private final Texts texts;
    private final PassForge x = new PassForge();
    private final Oracle due = new Oracle();
    private final int run;
    private int call;

    private RandomTest(int run) {
        this.run = run;
        dice = new Dice(run);
        texts = new Texts(dice);
    }

    public static void main(String[] args) {
        int runs = args.length > 0 ? Integer.parseInt(args[0]) : RUNS;
        for (int run = 1; run <= runs && Check.wrong() < 10; run++) {
            new RandomTest(run).doRun();
        }
        Check.end("RandomTest");
    }

    private void doRun() {
        compare("digest()", x::digest, due::digest);
        while (call < CALLS && Check.wrong() < 10) {
            doOne();
            if (dice.isOneOf(25)) {
                compare("digest()", x::digest, due::digest);
            }
        }
        compare("digest()", x::digest, due::digest);
    }

    private void compare(String name, Callable<?> got, Callable<?> wanted) {
        call++;
        Check.same("run " + run + " call " + call + " " + name, Check.answer(got), Check.answer(wanted));
    }

    /** Mostly a number that can be meant, at times one beside it. */
    private int index(int below) {
        if (dice.isOneOf(15)) {
            int[] odd = {-1, below, below + 1, Integer.MIN_VALUE, Integer.MAX_VALUE};
            return odd[dice.below(odd.length)];
        }
        return dice.below(Math.max(1, below));
    }

    private void doOne() {
        switch (dice.below(due.programs() < 2 ? 6 : 17)) {
            case 0: case 1: compile(); break;
            case 2: put(); break;
            case 3: empty(); break;
            case 4: feedOrTrim(); break;
            case 5: case 6: case 7: pass(); break;
            case 8: better(); break;
            case 9: case 10: run(); break;
            case 11: case 12: askProgram(); break;
            case 13: case 14: askRun(); break;
            case 15: differ(); break;
            default: share(); break;
        }
    }

    private void compile() {
        String text = texts.next();
        compare("trim(0)", () -> x.trim(0), () -> due.trim(0));
        for (int at = 0; at < text.length(); at += 20) {
            feed(Check.four(text, at), Check.four(text, at + 4), Check.four(text, at + 8), Check.four(text, at + 12),
                    Check.four(text, at + 16));
        }
        compare("trim", () -> x.trim(text.length()), () -> due.trim(text.length()));
        compare("compile() of " + text, x::compile, due::compile);
        compare("errorAt() of " + text, x::errorAt, due::errorAt);
        compare("programs()", x::programs, due::programs);
    }

    private void feed(int a, int b, int c, int d, int e) {
        compare("feed()", () -> x.feed(a, b, c, d, e), () -> due.feed(a, b, c, d, e));
    }

    private void feedOrTrim() {
        if (dice.isOneOf(2)) {
            int n = index(40);
            compare("trim(" + n + ")", () -> x.trim(n), () -> due.trim(n));
        } else {
            feed((int) dice.next(), (int) dice.next(), (int) dice.next(), (int) dice.next(), (int) dice.next());
        }
    }

    private void put() {
        long value = dice.isOneOf(4) ? dice.next() : dice.below(5) - 1;
        compare("put(" + value + ")", () -> x.put(value), () -> due.put(value));
    }

    private void empty() {
        if (dice.isOneOf(8)) {
            compare("empty()", x::empty, due::empty);
        }
    }

    private void pass() {
        int p = index(due.programs());
        int pass = index(5);
        compare("pass(" + p + ", " + pass + ")", () -> x.pass(p, pass), () -> due.pass(p, pass));
    }

    private void better() {
        int p = index(due.programs());
        compare("better(" + p + ")", () -> x.better(p), () -> due.better(p));
    }

    private void run() {
        int p = index(due.programs());
        int most = dice.isOneOf(8) ? dice.below(5003) : dice.below(60);
        compare("run(" + p + ", " + most + ")", () -> x.run(p, most), () -> due.run(p, most));
    }

    private void askProgram() {
        int p = index(due.programs());
        int size = p >= 0 && p < due.programs() ? due.count(p, 0) : 5;
        int i = index(size);
        int what = index(6);
        boolean isSecond = dice.isOneOf(2);
        compare("count(" + p + ", " + what + ")", () -> x.count(p, what), () -> due.count(p, what));
        compare("code(" + p + ", " + i + ", " + what + ")", () -> x.code(p, i, what), () -> due.code(p, i, what));
        compare("number(" + p + ", " + i + ", " + isSecond + ")", () -> x.number(p, i, isSecond), () -> due.number(p, i, isSecond));
        compare("live(" + p + ", " + i + ")", () -> x.live(p, i), () -> due.live(p, i));
    }

    private void askRun() {
        int what = index(3);
        int variable = index(12);
        int index = dice.isOneOf(5) ? 55 + dice.below(10) : index(due.ran(1));
        compare("ran(" + what + ")", () -> x.ran(what), () -> due.ran(what));
        compare("variable(" + variable + ")", () -> x.variable(variable), () -> due.variable(variable));
        compare("output(" + index + ")", () -> x.output(index), () -> due.output(index));
    }

    private void differ() {
        int a = index(due.programs());
        int b = index(due.programs());
        int n = index(5);
        int v = index(6);
        compare("differ(" + a + ", " + b + ", " + n + ", " + v + ")", () -> x.differ(a, b, n, v), () -> due.differ(a, b, n, v));
    }

    private void share() {
        int a = index(due.programs());
        int b = index(due.programs());
        int n = index(5);
        int v = index(6);
        compare("share(" + a + ", " + b + ", " + n + ", " + v + ")", () -> x.share(a, b, n, v), () -> due.share(a, b, n, v));
    }
}
