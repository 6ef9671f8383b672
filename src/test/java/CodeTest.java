/** Promises 7 to 10: count, code, number, live. */
public final class CodeTest {
    private static final Class<?> INDEX = IndexOutOfBoundsException.class;

    public static void main(String[] args) {
        counts();
        blocks();
        loops();
        unreached();
        codes();
        numbers();
        lives();
        liveWays();
        wrongIndexes();
        Check.end("CodeTest");
    }

    private static void count(String text, int what, int due) {
        Check.is("count " + what + " of " + text, Check.with(text).count(0, what), due);
    }

    private static void counts() {
        count("a: b: x = y; goto a;", 0, 4);
        count("a: b: x = y; goto a;", 1, 2);
        count("a: b: x = y; goto a;", 2, 2);
        count("halt;", 1, 0);
        count("halt;", 2, 0);
        PassForge x = Check.with("a: b: x = y; goto b;");
        x.pass(0, 3);
        Check.is("instructions behind drop", x.count(1, 0), 2);
        Check.is("variables as the text had them", x.count(1, 1), 2);
        Check.is("labels as the text had them", x.count(1, 2), 2);
    }

    private static void blocks() {
        count("halt;", 3, 1);
        count("x = 1; y = 2; out x;", 3, 1);
        count("x = 1; a: y = 2; out x;", 3, 2);
        count("a: b: x = 1;", 3, 2);
        count("halt; x = 1;", 3, 2);
        count("goto a; a: x = 1;", 3, 2);
        count("goto a; x = 1; a: x = 1;", 3, 3);
        count("if 1 goto a; x = 1; a:", 3, 3);
        count("a: goto a;", 3, 1);
        PassForge x = Check.with("halt; x = 1;");
        x.pass(0, 3);
        x.pass(1, 3);
        Check.is("blocks behind drop", x.count(1, 3), 1);
        PassForge none = Check.with("x = 1;");
        none.pass(0, 3);
        for (int what : new int[] {0, 3, 4, 5}) {
            Check.is("an empty program", none.count(1, what), 0);
        }
    }

    private static void loops() {
        count("a: goto a;", 4, 1);
        count("a: x = 1; if x goto a;", 4, 1);
        count("goto a; a: x = 1;", 4, 0);
        count("goto a; a: if x goto a;", 4, 0);
        count("a: if x goto a; if y goto a;", 4, 0);
        count("x = 1; a: b: out x; if x goto b; if y goto a;", 4, 2);
        count("goto b; a: out 1; b: if x goto a;", 4, 0);
        count("a: out 1; b: if x goto a; goto b;", 4, 1);
        count("a: if y goto b; out 1; b: if x goto a;", 4, 1);
        count("a: if y goto b; if x goto a; b:", 4, 1);
        count("a: b: if x goto a; if y goto b;", 4, 1);
        count("a: out 1; if x goto a; b: out 2; if y goto b;", 4, 2);
        count("goto b; a: out 1; b: c: if x goto a; if y goto c;", 4, 1);
    }

    private static void unreached() {
        count("x = 1; out x;", 5, 0);
        count("halt; x = 1; a: out x;", 5, 3);
        count("goto a; x = 1; a: out x;", 5, 1);
        count("a: goto a; b: out 1; goto b;", 5, 3);
        count("if 1 goto a; x = 1; a:", 5, 0);
        count("if 0 goto a; halt; a: out 1;", 5, 0);
        count("goto b; a: out 1; halt; b: goto a;", 5, 0);
    }

    private static void code(PassForge x, int instruction, int sort, int target, int op, int v, int w) {
        int[] due = {sort, target, op, v, w};
        for (int what = 0; what < due.length; what++) {
            Check.is("code(0, " + instruction + ", " + what + ")", x.code(0, instruction, what), due[what]);
        }
    }

    private static void codes() {
        PassForge x = Check.with("b: x = 5; x = y; y = x - z; y = 1 / x; goto b; if z goto c; if 2 goto c; c: in z; out y; out 3; halt;");
        code(x, 0, 0, 0, -1, -1, -1);
        code(x, 1, 1, 0, -1, -1, -1);
        code(x, 2, 1, 0, -1, 1, -1);
        code(x, 3, 2, 1, 1, 0, 2);
        code(x, 4, 2, 1, 3, -1, 0);
        code(x, 5, 3, 0, -1, -1, -1);
        code(x, 6, 4, 1, -1, 2, -1);
        code(x, 7, 4, 1, -1, -1, -1);
        code(x, 8, 0, 1, -1, -1, -1);
        code(x, 9, 5, 2, -1, -1, -1);
        code(x, 10, 6, -1, -1, 1, -1);
        code(x, 11, 6, -1, -1, -1, -1);
        code(x, 12, 7, -1, -1, -1, -1);
        String ops = "+-*/%&|^<=";
        for (int i = 0; i < ops.length(); i++) {
            Check.is("op " + ops.charAt(i), Check.with("x = y" + ops.charAt(i) + "z;").code(0, 0, 2), i);
        }
    }

    private static void numbers() {
        PassForge x = Check.with("x = -999999; x = y + 7; x = 3 - y; x = -1 * -0; if 6 goto a; out 8; a: in x; halt;");
        long[] first = {-999999, 0, 3, -1, 6, 8, 0, 0, 0};
        long[] second = {0, 7, 0, 0, 0, 0, 0, 0, 0};
        for (int i = 0; i < first.length; i++) {
            Check.is("v of " + i, x.number(0, i, false), first[i]);
            Check.is("w of " + i, x.number(0, i, true), second[i]);
        }
        Check.is("w negative", Check.with("x = 1 + -2;").number(0, 0, true), -2);
    }

    private static void live(String text, int... due) {
        PassForge x = Check.with(text);
        for (int i = 0; i < due.length; i++) {
            Check.is("live(0, " + i + ") of " + text, x.live(0, i), due[i]);
        }
    }

    private static void lives() {
        live("x = 1; out x;", 1, 0);
        live("x = 1; y = x; out y;", 1, 2, 0);
        live("x = x + 1; out y;", 2, 0);
        live("x = 1; x = x + 1; out x;", 1, 1, 0);
        live("x = 1; in x; out x;", 0, 1, 0);
        live("x = y - z; out x;", 1, 0);
        live("in x; in y; x = y * y; if x goto a; a:", 0, 2, 1, 0, 0);
    }

    private static void liveWays() {
        live("x = 1; if y goto a; halt; a: out x;", 3, 1, 0, 1, 0);
        live("in x; if 0 goto a; halt; a: out x;", 1, 1, 0, 1, 0);
        live("x = 1; goto a; out x; a: x = 2; out x;", 0, 0, 0, 0, 1, 0);
        live("in n; a: s = s + n; n = n - 1; if n goto a; out s;", 3, 3, 3, 3, 3, 0);
        live("a: x = 1; goto a; out x;", 0, 0, 0, 0);
        live("halt; b: out x; goto b;", 0, 1, 1, 1);
        StringBuilder text = new StringBuilder();
        for (char name = 'a'; name <= 'l'; name++) {
            text.append("in ").append(name).append(";");
        }
        for (char name = 'a'; name <= 'l'; name++) {
            text.append("out ").append(name).append(";");
        }
        Check.is("all twelve are live", Check.with(text.toString()).live(0, 11), 4095);
    }

    private static void wrongIndexes() {
        PassForge empty = new PassForge();
        Check.fails("count without programs", INDEX, () -> empty.count(0, 0));
        Check.fails("live without programs", INDEX, () -> empty.live(0, 0));
        PassForge x = Check.with("out 1; halt;");
        for (int wrong : new int[] {-1, 1, 11, 12, Integer.MIN_VALUE, Integer.MAX_VALUE}) {
            Check.fails("count of program " + wrong, INDEX, () -> x.count(wrong, 0));
            Check.fails("code of program " + wrong, INDEX, () -> x.code(wrong, 0, 0));
            Check.fails("number of program " + wrong, INDEX, () -> x.number(wrong, 0, false));
            Check.fails("live of program " + wrong, INDEX, () -> x.live(wrong, 0));
        }
        for (int wrong : new int[] {-1, 2, 80, 81, Integer.MIN_VALUE, Integer.MAX_VALUE}) {
            Check.fails("code of instruction " + wrong, INDEX, () -> x.code(0, wrong, 0));
            Check.fails("number of instruction " + wrong, INDEX, () -> x.number(0, wrong, true));
            Check.fails("live of instruction " + wrong, INDEX, () -> x.live(0, wrong));
        }
        for (int wrong : new int[] {-1, 6, Integer.MIN_VALUE, Integer.MAX_VALUE}) {
            Check.fails("count " + wrong, INDEX, () -> x.count(0, wrong));
            Check.fails("code " + wrong, INDEX, () -> x.code(0, 0, wrong));
        }
        Check.fails("code 5", INDEX, () -> x.code(0, 0, 5));
        Check.is("count 5", x.count(0, 5), 0);
    }
}
