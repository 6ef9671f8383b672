/** Promises 11 and 12: pass and better. */
public final class PassTest {
    private static final int FOLD = 0;
    private static final int COPY = 1;
    private static final int VALUE = 2;
    private static final int DROP = 3;
    private static final int MOVE = 4;

    public static void main(String[] args) {
        foldNumbers();
        foldReckons();
        foldIfs();
        foldBlocks();
        copies();
        copyDrops();
        copyForgets();
        values();
        valuesThatAreNot();
        drops();
        dropsAgain();
        moves();
        movesThatAreNot();
        movesOutOfTwo();
        oldStays();
        betters();
        betterAtMostEightTimes();
        wrongCalls();
        Check.end("PassTest");
    }

    /** A pass of a text: how many changes it makes, and the new program, in names by the numbers. */
    private static void made(int pass, String text, int changes, String due) {
        PassForge x = Check.with(text);
        Check.is("pass " + pass + " of " + text, x.pass(0, pass), changes);
        Check.same("pass " + pass + " of " + text, Check.show(x, 1, text), due);
    }

    private static void same(int pass, String text) {
        made(pass, text, 0, text);
    }

    private static void foldNumbers() {
        made(FOLD, "a = 5; b = a;", 1, "a = 5; b = 5;");
        made(FOLD, "a = 5; b = a; out b; out a;", 3, "a = 5; b = 5; out 5; out 5;");
        made(FOLD, "a = 5; in b; c = a + b;", 1, "a = 5; in b; c = 5 + b;");
        made(FOLD, "a = 5; in b; c = b + a;", 1, "a = 5; in b; c = b + 5;");
        made(FOLD, "a = 5; in a; out a;", 0, "a = 5; in a; out a;");
        made(FOLD, "a = 5; a = b; out a;", 0, "a = 5; a = b; out a;");
        made(FOLD, "a = 5; a = a + b; out a;", 1, "a = 5; a = 5 + b; out a;");
        same(FOLD, "out a; in a; out a;");
        same(FOLD, "out 5; halt;");
    }

    private static void foldReckons() {
        made(FOLD, "a = 2 + 3;", 1, "a = 5;");
        made(FOLD, "a = 5; b = a * a;", 3, "a = 5; b = 25;");
        made(FOLD, "a = 5; a = a - 1; a = a - 1;", 4, "a = 5; a = 4; a = 3;");
        made(FOLD, "a = 7 / 0;", 1, "a = 0;");
        made(FOLD, "a = 7 % 0;", 1, "a = 0;");
        made(FOLD, "a = -7 / 2; b = -7 % 2; c = 7 % -2;", 3, "a = -3; b = -1; c = 1;");
        made(FOLD, "a = 6 & 3; b = 6 | 3; c = 6 ^ 3; d = 2 < 3; e = 3 < 3; f = 3 = 3; g = 2 = 3;", 7,
                "a = 2; b = 7; c = 5; d = 1; e = 0; f = 1; g = 0;");
        made(FOLD, "a = -1 < 0; b = -1 & 255; c = 0 - -3;", 3, "a = 1; b = 255; c = 3;");
        made(FOLD, "a = 999999 * 999999; a = a * a; a = a * 2; out a;", 7,
                "a = 999998000001; a = -1996229794797103359; a = -3992459589594206718; out -3992459589594206718;");
    }

    private static void foldIfs() {
        made(FOLD, "if 0 goto la; out 1; la:", 1, "out 1; la:");
        made(FOLD, "if 7 goto la; out 1; la:", 1, "goto la; out 1; la:");
        made(FOLD, "if -1 goto la; out 1; la:", 1, "goto la; out 1; la:");
        made(FOLD, "a = 3; if a goto la; la:", 2, "a = 3; goto la; la:");
        made(FOLD, "a = 0; if a goto la; la:", 2, "a = 0; la:");
        same(FOLD, "in a; if a goto la; la:");
        PassForge x = Check.with("if 3 goto a; a:");
        x.pass(0, FOLD);
        Check.is("a goto has no number", x.number(1, 0, false), 0);
        Check.is("a goto has its label", x.code(1, 0, 1), 0);
        PassForge y = Check.with("x = 2 + 3;");
        y.pass(0, FOLD);
        Check.is("x = 5 has no op", y.code(1, 0, 2), -1);
        Check.is("x = 5 has no w", y.number(1, 0, true), 0);
    }

    private static void foldBlocks() {
        same(FOLD, "a = 5; la: out a; goto la;");
        made(FOLD, "a = 5; if b goto la; out a; la:", 0, "a = 5; if b goto la; out a; la:");
        made(FOLD, "a = 5; if 0 goto la; out a; la:", 1, "a = 5; out a; la:");
        made(FOLD, "a = 5; halt; out a;", 0, "a = 5; halt; out a;");
        made(FOLD, "a = 5; goto la; out a; la:", 0, "a = 5; goto la; out a; la:");
        made(FOLD, "la: a = 5; out a; if a goto la; out a;", 3, "la: a = 5; out 5; goto la; out a;");
    }

    private static void copies() {
        made(COPY, "a = b; out a;", 1, "a = b; out b;");
        made(COPY, "a = b; c = a + a;", 2, "a = b; c = b + b;");
        made(COPY, "a = b; c = a; out c; if c goto la; la:", 3, "a = b; c = b; out b; if b goto la; la:");
        made(COPY, "a = b; a = a + 1; out a;", 1, "a = b; a = b + 1; out a;");
        same(COPY, "a = 5; out a;");
        same(COPY, "a = b + 0; out a;");
        same(COPY, "a = b; la: out a;");
        same(COPY, "a = b; if b goto la; out a; la:");
        same(COPY, "a = b; halt; out a;");
    }

    private static void copyDrops() {
        made(COPY, "a = a;", 1, "");
        made(COPY, "a = b; b = a; out a;", 3, "a = b; out b;");
        made(COPY, "a = b; a = b; out a;", 1, "a = b; a = b; out b;");
        made(COPY, "a = b; a = a; out a;", 2, "a = b; a = b; out b;");
        made(COPY, "a = b; c = a; b = c; out a; out c;", 5, "a = b; c = b; out b; out b;");
    }

    private static void copyForgets() {
        made(COPY, "a = b; b = 5; out a;", 0, "a = b; b = 5; out a;");
        made(COPY, "a = b; in b; out a;", 0, "a = b; in b; out a;");
        made(COPY, "a = b; in a; out a;", 0, "a = b; in a; out a;");
        made(COPY, "a = b; c = b; b = 1; out a; out c;", 0, "a = b; c = b; b = 1; out a; out c;");
        made(COPY, "a = b; b = a + 1; out a; out b;", 1, "a = b; b = b + 1; out a; out b;");
        made(COPY, "a = b; a = c; out a; c = 2; out a;", 1, "a = b; a = c; out c; c = 2; out a;");
    }

    private static void values() {
        made(VALUE, "a = b + c; d = b + c;", 1, "a = b + c; d = a;");
        made(VALUE, "a = b + c; d = c + b;", 1, "a = b + c; d = a;");
        for (String op : new String[] {"*", "&", "|", "^", "="}) {
            made(VALUE, "a = b " + op + " 3; c = 3 " + op + " b;", 1, "a = b " + op + " 3; c = a;");
        }
        for (String op : new String[] {"-", "/", "%", "<"}) {
            same(VALUE, "a = b " + op + " 3; c = 3 " + op + " b;");
            made(VALUE, "a = b " + op + " 3; c = b " + op + " 3;", 1, "a = b " + op + " 3; c = a;");
        }
        made(VALUE, "a = b + 1; a = b + 1;", 1, "a = b + 1; a = a;");
        made(VALUE, "a = b + 1; a = b + 1; c = b + 1;", 1, "a = b + 1; a = a; c = b + 1;");
        made(VALUE, "a = b + 1; c = b + 1; d = b + 1;", 2, "a = b + 1; c = a; d = a;");
        made(VALUE, "a = b + 1; c = b + 1; a = 5; d = b + 1;", 1, "a = b + 1; c = a; a = 5; d = b + 1;");
        made(VALUE, "a = 2 * 3; b = 3 * 2;", 1, "a = 2 * 3; b = a;");
        made(VALUE, "a = b + c; b = b + c;", 1, "a = b + c; b = a;");
    }

    private static void valuesThatAreNot() {
        same(VALUE, "a = b + 1; c = b - 1;");
        same(VALUE, "a = b + 1; c = b + 2;");
        same(VALUE, "a = b + 1; c = b + d;");
        same(VALUE, "a = b + 0; c = b + d;");
        same(VALUE, "a = b; c = b;");
        same(VALUE, "a = a + 1; b = a + 1;");
        same(VALUE, "a = b + c; b = 1; d = b + c;");
        same(VALUE, "a = b + c; in c; d = b + c;");
        same(VALUE, "a = b + c; in a; d = b + c;");
        same(VALUE, "a = b + c; la: d = b + c; goto la;");
        same(VALUE, "a = b + c; if a goto la; d = b + c; la:");
        made(VALUE, "a = b + c; d = b + c; b = 1; e = b + c;", 1, "a = b + c; d = a; b = 1; e = b + c;");
        made(VALUE, "a = b + c; d = b + c; b = 1; e = b + c; f = b + c;", 2, "a = b + c; d = a; b = 1; e = b + c; f = e;");
    }

    private static void drops() {
        made(DROP, "a = 1; out 2;", 1, "out 2;");
        made(DROP, "a = b + 1; out 2;", 1, "out 2;");
        same(DROP, "in a; out 2;");
        same(DROP, "a = 1; out a;");
        made(DROP, "a = 1; a = 2; out a;", 1, "a = 2; out a;");
        made(DROP, "halt; out 1; in a; halt;", 3, "halt;");
        made(DROP, "goto la; out 1; la: out 2;", 3, "out 2;");
        made(DROP, "goto la; lb: la: out 2; if a goto lb;", 2, "lb: out 2; if a goto lb;");
        made(DROP, "la: out 1;", 1, "out 1;");
        same(DROP, "if 0 goto la; out 1; la:");
        same(DROP, "if a goto la; la: out 1;");
        same(DROP, "la: goto la;");
        made(DROP, "la: a = a + 1; goto la; out a;", 1, "la: a = a + 1; goto la;");
        made(DROP, "la: a = 1; goto la;", 1, "la: goto la;");
        made(DROP, "goto la; out 5; goto la; la: out 2; if a goto la;", 3, "la: out 2; if a goto la;");
        made(DROP, "a = 1;", 1, "");
    }

    private static void dropsAgain() {
        made(DROP, "a = 1; b = a; c = b; out 1;", 3, "out 1;");
        made(DROP, "halt; la: out 1; goto la;", 3, "halt;");
        made(DROP, "a = 1; goto la; out a; la: out 2;", 4, "out 2;");
        made(DROP, "a = a + 1; la: if b goto la;", 1, "la: if b goto la;");
    }

    private static void moves() {
        made(MOVE, "la: a = 5; out a; in b; if b goto la;", 1, "a = 5; la: out a; in b; if b goto la;");
        made(MOVE, "la: a = c + d; out a; goto la;", 1, "a = c + d; la: out a; goto la;");
        made(MOVE, "out 1; la: in b; a = 5; c = 6; out a; out c; if b goto la;", 2,
                "out 1; a = 5; c = 6; la: in b; out a; out c; if b goto la;");
        made(MOVE, "la: a = 5; b = a + 1; out b; goto la;", 2, "a = 5; b = a + 1; la: out b; goto la;");
        made(MOVE, "la: a = 5; out a; goto la; lb: out a;", 1, "a = 5; la: out a; goto la; lb: out a;");
        made(MOVE, "la: a = 5; out a; if b goto la; a = 1; out a;", 1, "a = 5; la: out a; if b goto la; a = 1; out a;");
    }

    private static void movesThatAreNot() {
        same(MOVE, "la: out a; a = 5; if b goto la;");
        same(MOVE, "la: a = a + 1; if b goto la;");
        same(MOVE, "la: a = b; in b; if b goto la;");
        same(MOVE, "la: a = 1; out a; a = 2; out a; goto la;");
        same(MOVE, "la: a = 1; out a; in a; out a; goto la;");
        same(MOVE, "la: in a; out a; if b goto la;");
        same(MOVE, "la: a = 5; if b goto la; out a;");
        same(MOVE, "la: if b goto lb; a = 5; out a; goto la; lb: out a;");
        same(MOVE, "la: a = 5; out a; if b goto la; goto la;");
        same(MOVE, "goto la; lb: a = 5; la: out a; if b goto lb;");
        same(MOVE, "a = 5; out a;");
        made(MOVE, "la: if b goto lb; a = 5; out a; goto la; lb: a = 1; out a;", 1,
                "a = 5; la: if b goto lb; out a; goto la; lb: a = 1; out a;");
    }

    private static void movesOutOfTwo() {
        made(MOVE, "la: in b; lb: a = 5; out a; in c; if c goto lb; if b goto la;", 1,
                "a = 5; la: in b; lb: out a; in c; if c goto lb; if b goto la;");
        made(MOVE, "la: in b; lb: a = b + 1; out a; in c; if c goto lb; if b goto la;", 1,
                "la: in b; a = b + 1; lb: out a; in c; if c goto lb; if b goto la;");
        made(MOVE, "la: d = 4; lb: a = 5; out a; out d; in c; if c goto lb; goto la;", 2,
                "d = 4; a = 5; la: lb: out a; out d; in c; if c goto lb; goto la;");
        made(MOVE, "la: out a; if b goto la; lb: c = 1; out c; goto lb;", 1,
                "la: out a; if b goto la; c = 1; lb: out c; goto lb;");
    }

    private static void oldStays() {
        String text = "a = 5; la: b = a; out b; goto la; halt;";
        PassForge x = Check.with(text);
        for (int pass = 0; pass < 5; pass++) {
            x.pass(0, pass);
            Check.same("the old one stays behind " + pass, Check.show(x, 0, text), text);
            Check.is("the new one is the last", x.programs(), pass + 2);
        }
        Check.is("a pass without changes makes a program too", x.pass(5, COPY), 0);
        Check.same("which is the same", Check.show(x, 6, text), Check.show(x, 5, text));
    }

    private static void betters() {
        String text = "a = 2; b = a + 3; c = b; out c; if 0 goto la; out 1; la:";
        PassForge x = Check.with(text);
        Check.is("changes", x.better(0), 9);
        Check.same("better", Check.show(x, 1, text), "out 5; out 1;");
        Check.is("better again", x.better(1), 0);
        Check.same("stays", Check.show(x, 2, text), "out 5; out 1;");
        Check.is("three programs", x.programs(), 3);
        Check.same("the old one stays", Check.show(x, 0, text), text);
        better("in a; la: b = a; c = b * 2; d = a * 2; e = c - d; out e; out c; if e goto la;", 8,
                "in a; c = a * 2; e = c - c; la: out e; out c; if e goto la;");
    }

    private static void better(String text, int changes, String due) {
        PassForge x = Check.with(text);
        Check.is("better of " + text, x.better(0), changes);
        Check.same("better of " + text, Check.show(x, 1, text), due);
    }

    /** An if that is dropped joins its block with the next one, so each round drops one. */
    private static void betterAtMostEightTimes() {
        String one = "if x goto z; ";
        better("x = 0; " + one.repeat(7) + "out x; z: out 1;", 17, "out 0; out 1;");
        better("x = 0; " + one.repeat(8) + "out x; z: out 1;", 17, "x = 0; out x; out 1;");
        better("x = 0; " + one.repeat(10) + "out x; z: out 1;", 16, "x = 0; " + one.repeat(2) + "out x; z: out 1;");
    }

    private static void wrongCalls() {
        Class<?> index = IndexOutOfBoundsException.class;
        Class<?> argument = IllegalArgumentException.class;
        Class<?> state = IllegalStateException.class;
        PassForge x = Check.with("a = 1; out a;");
        for (int wrong : new int[] {-1, 1, 12, Integer.MIN_VALUE, Integer.MAX_VALUE}) {
            Check.fails("pass of program " + wrong, index, () -> x.pass(wrong, 0));
            Check.fails("better of program " + wrong, index, () -> x.better(wrong));
            Check.fails("program before pass", index, () -> x.pass(wrong, 9));
        }
        for (int wrong : new int[] {-1, 5, Integer.MIN_VALUE, Integer.MAX_VALUE}) {
            Check.fails("pass " + wrong, argument, () -> x.pass(0, wrong));
        }
        for (int i = 1; i < 12; i++) {
            x.pass(0, i % 5);
        }
        long before = x.digest();
        Check.fails("a 13th by pass", state, () -> x.pass(11, 0));
        Check.fails("a 13th by better", state, () -> x.better(11));
        Check.fails("pass before the row is full", argument, () -> x.pass(0, 5));
        Check.fails("program before the row is full", index, () -> x.pass(12, 0));
        Check.fails("program before the row is full", index, () -> x.better(12));
        Check.is("nothing changed", x.digest(), before);
    }
}
