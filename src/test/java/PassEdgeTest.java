/** Section 2 of the document, sentence by sentence: where blocks and loops begin and end, where nothing is known, what stays. */
public final class PassEdgeTest {
    private static final int FOLD = 0;
    private static final int COPY = 1;
    private static final int VALUE = 2;
    private static final int DROP = 3;
    private static final int MOVE = 4;

    /** All that ends a block, and what begins the next one; the label z stands at the end of each text. */
    private static final String[] BLOCK_ENDS = {
        "k:", "k: m:", "goto z;", "if y goto z;", "halt;", "goto k; k:", "if y goto k; k:", "if y goto z; k:"
    };

    public static void main(String[] args) {
        namesStay();
        emptyProgram();
        nothingIsKnownAtFirst();
        knownToTheEndOfTheBlock();
        knownOrNot();
        foldsEachPlace();
        foldsByTheTerms();
        foldsIfs();
        foldedIfsEndTheirBlock();
        nothingIsACopyAtFirst();
        copyToTheEndOfTheBlock();
        copyOrNot();
        copyItself();
        valuesInTheirBlock();
        valuesWithTheSameParts();
        valuesThatStillHold();
        valuesAsThePassLeftThem();
        cannotBeComeTo();
        isNotLive();
        gotosToWhatStandsBehind();
        labelsWithoutJumps();
        firstInstructionIsDroppedFirst();
        eightyInstructions();
        Check.end("PassEdgeTest");
    }

    private static void made(int pass, String text, int changes, String due) {
        PassForge x = Check.with(text);
        Check.is("pass " + pass + " of " + text, x.pass(0, pass), changes);
        Check.same("pass " + pass + " of " + text, Check.show(x, 1, text), due);
        Check.same("the old one stays: " + text, Check.show(x, 0, text), text);
    }

    private static void same(int pass, String text) {
        made(pass, text, 0, text);
    }

    /** "Variables and labels keep their numbers." */
    private static void namesStay() {
        PassForge x = Check.with("a = 1; goto p; b = 2; p: c = 3; q: d = c; out d; if d goto q;");
        Check.is("drop", x.pass(0, DROP), 4);
        Check.same("what is left", Check.show(x, 1, "a b p: c q: d goto p; goto q;"), "c = 3; q: d = c; out d; if d goto q;");
        Check.is("c is 2", x.code(1, 0, 1), 2);
        Check.is("q is 1", x.code(1, 1, 1), 1);
        Check.is("d is 3", x.code(1, 2, 1), 3);
        Check.is("variables as the text had them", x.count(1, 1), 4);
        Check.is("labels as the text had them", x.count(1, 2), 2);
        Check.is("live of c and d", x.live(1, 2), 4 + 8);
        x.better(1);
        Check.is("variables behind better", x.count(2, 1), 4);
        Check.is("labels behind better", x.count(2, 2), 2);
    }

    /** A program without instructions is one, too, and every pass makes one of it. */
    private static void emptyProgram() {
        PassForge x = Check.with("a = 1;");
        Check.is("dropped", x.pass(0, DROP), 1);
        for (int pass = 0; pass < 5; pass++) {
            Check.is("changes", x.pass(pass + 1, pass), 0);
            Check.is("instructions", x.count(pass + 2, 0), 0);
        }
        Check.is("better", x.better(6), 0);
        int[] due = {0, 1, 0, 0, 0, 0};
        for (int what = 0; what < 6; what++) {
            Check.is("count " + what, x.count(7, what), due[what]);
        }
        Check.fails("no instruction", IndexOutOfBoundsException.class, () -> x.live(7, 0));
        Check.is("no step", x.run(7, 1), 0);
        Check.is("it stops by itself", x.ran(0), 1);
    }

    /** fold: "in each block, nothing is known at first" */
    private static void nothingIsKnownAtFirst() {
        same(FOLD, "out a; b = a; c = a + a; if a goto z; z:");
        for (String end : BLOCK_ENDS) {
            same(FOLD, "a = 5; " + end + " out a; b = a; z:");
            same(FOLD, "a = 5; out 1; " + end + " b = 1 - a; in a; z:");
        }
        made(FOLD, "a = 5; k: a = 6; m: out a;", 0, "a = 5; k: a = 6; m: out a;");
        made(FOLD, "k: out a; a = 5; out a; if b goto k; out a;", 1, "k: out a; a = 5; out 5; if b goto k; out a;");
    }

    /** A block is as long as there can be. */
    private static void knownToTheEndOfTheBlock() {
        made(FOLD, "a = 5; in b; out b; in c; c = b; out 7; b = c * a; out a;", 2, "a = 5; in b; out b; in c; c = b; out 7; b = c * 5; out 5;");
        made(FOLD, "k: a = 5; if a goto k; out a;", 2, "k: a = 5; goto k; out a;");
        made(FOLD, "a = 5; out a; goto k; k:", 1, "a = 5; out 5; goto k; k:");
        made(FOLD, "a = 5; out a; halt;", 1, "a = 5; out 5; halt;");
        made(FOLD, "out 1; halt; a = 5; out a;", 1, "out 1; halt; a = 5; out 5;");
    }

    /** fold: "if it assigns x: x is known if it is now x = number, otherwise not" */
    private static void knownOrNot() {
        made(FOLD, "a = 5; b = a; c = b; out c;", 3, "a = 5; b = 5; c = 5; out 5;");
        made(FOLD, "a = 5; b = a + 1; out b;", 3, "a = 5; b = 6; out 6;");
        made(FOLD, "a = 5; in a; out a;", 0, "a = 5; in a; out a;");
        made(FOLD, "a = 5; a = b; out a;", 0, "a = 5; a = b; out a;");
        made(FOLD, "a = 5; a = b + 1; out a;", 0, "a = 5; a = b + 1; out a;");
        made(FOLD, "a = 5; a = a + b; out a;", 1, "a = 5; a = 5 + b; out a;");
        made(FOLD, "a = 5; a = 6; out a;", 1, "a = 5; a = 6; out 6;");
        made(FOLD, "a = 5; in a; a = 6; out a;", 1, "a = 5; in a; a = 6; out 6;");
        made(FOLD, "a = 0; out a;", 1, "a = 0; out 0;");
        made(FOLD, "in a; b = a; out b;", 0, "in a; b = a; out b;");
        made(FOLD, "a = b; out a; out b;", 0, "a = b; out a; out b;");
        made(FOLD, "a = 5; in b; out a; out b;", 1, "a = 5; in b; out 5; out b;");
    }

    /** fold: "one change for each place where it stands"; only numbers are reckoned. */
    private static void foldsEachPlace() {
        made(FOLD, "in a; b = 3; c = b + a; d = a + b; e = b;", 3, "in a; b = 3; c = 3 + a; d = a + 3; e = 3;");
        made(FOLD, "in a; b = 5 + a;", 0, "in a; b = 5 + a;");
        made(FOLD, "in a; b = a + 5;", 0, "in a; b = a + 5;");
        made(FOLD, "a = 3; b = 5 + a; c = a - 5;", 4, "a = 3; b = 8; c = -2;");
        made(FOLD, "a = 3; b = a * a;", 3, "a = 3; b = 9;");
        made(FOLD, "in a; b = 2; a = a + b; b = b + a;", 2, "in a; b = 2; a = a + 2; b = 2 + a;");
        String[] letters = "a b c d e f g h i j k l".split(" ");
        StringBuilder text = new StringBuilder();
        StringBuilder due = new StringBuilder();
        for (int i = 0; i < 12; i++) {
            text.append(letters[i]).append(" = ").append(100 + i).append("; ");
        }
        due.append(text);
        for (int i = 0; i < 12; i++) {
            text.append("out ").append(letters[i]).append(i < 11 ? "; " : ";");
            due.append("out ").append(100 + i).append(i < 11 ? "; " : ";");
        }
        made(FOLD, text.toString(), 12, due.toString());
    }

    /** fold: "its result", in 64-bit integers that wrap around. */
    private static void foldsByTheTerms() {
        String least = "m = 65536 * 65536; m = m * 65536; m = m * 32768; ";
        String folded = "m = 4294967296; m = 281474976710656; m = -9223372036854775808; ";
        String[][] ops = {
            {"m - 1", "9223372036854775807"}, {"m + m", "0"}, {"m * m", "0"}, {"m * -1", "-9223372036854775808"}, {"0 - m", "-9223372036854775808"},
            {"m / -1", "-9223372036854775808"}, {"m % -1", "0"}, {"m / 0", "0"}, {"m % 0", "0"}, {"m / m", "1"}, {"m / 2", "-4611686018427387904"},
            {"1 / m", "0"}, {"1 % m", "1"}, {"m % 10", "-8"}, {"m < 0", "1"}, {"0 < m", "0"}, {"m < m", "0"}, {"m = m", "1"}, {"m = 0", "0"},
            {"m & -1", "-9223372036854775808"}, {"m | 1", "-9223372036854775807"}, {"m ^ -1", "9223372036854775807"}
        };
        for (String[] op : ops) {
            int places = op[0].length() - op[0].replace("m", "").length();
            made(FOLD, least + "x = " + op[0] + ";", 5 + places + 1, folded + "x = " + op[1] + ";");
        }
        String[][] small = {
            {"0 / 0", "0"}, {"0 % 0", "0"}, {"-7 / 2", "-3"}, {"7 / -2", "-3"}, {"-7 / -2", "3"}, {"-7 % 2", "-1"}, {"7 % -2", "1"}, {"-7 % -2", "-1"},
            {"1 / 2", "0"}, {"-1 / 2", "0"}, {"6 % 3", "0"}, {"-6 % 3", "0"}, {"1 < 2", "1"}, {"2 < 1", "0"}, {"-1 < 1", "1"}, {"5 = 5", "1"}, {"5 = -5", "0"},
            {"12 & 10", "8"}, {"12 | 10", "14"}, {"12 ^ 10", "6"}, {"-12 & 255", "244"}, {"999999 + 1", "1000000"}, {"-999999 - 1", "-1000000"}
        };
        for (String[] op : small) {
            made(FOLD, "x = " + op[0] + ";", 1, "x = " + op[1] + ";");
        }
    }

    /** fold: "if v goto with a number v becomes a goto, or is dropped, if v is 0 (one change)" */
    private static void foldsIfs() {
        for (String number : new String[] {"1", "-1", "2", "999999", "-999999"}) {
            made(FOLD, "if " + number + " goto z; z:", 1, "goto z; z:");
        }
        made(FOLD, "if 0 goto z; z:", 1, "z:");
        made(FOLD, "if 0 goto z; if 0 goto z; if 1 goto z; z:", 3, "goto z; z:");
        made(FOLD, "a = 65536 * 65536; if a goto z; z:", 3, "a = 4294967296; goto z; z:");
        made(FOLD, "a = 5 - 5; if a goto z; z:", 3, "a = 0; z:");
        same(FOLD, "if a goto z; z:");
        same(FOLD, "goto z; z: halt;");
        made(FOLD, "z: if 1 goto z;", 1, "z: goto z;");
        made(FOLD, "z: if 0 goto z;", 1, "z:");
    }

    /** The blocks are those of the old program: an if that is dropped, or becomes a goto, ends its block. */
    private static void foldedIfsEndTheirBlock() {
        made(FOLD, "a = 5; if 0 goto z; out a; z:", 1, "a = 5; out a; z:");
        made(FOLD, "a = 5; if 1 goto z; out a; z:", 1, "a = 5; goto z; out a; z:");
        made(FOLD, "a = 0; if a goto z; out a; z:", 2, "a = 0; out a; z:");
    }

    /** copy: "in each block, nothing is a copy at first" */
    private static void nothingIsACopyAtFirst() {
        same(COPY, "out a; b = c + a; if a goto z; in a; z:");
        for (String end : BLOCK_ENDS) {
            same(COPY, "a = b; " + end + " out a; c = a; z:");
            same(COPY, "a = b; out 1; " + end + " c = 1 - a; b = a; z:");
        }
        made(COPY, "k: out a; a = b; out a; if c goto k; out a;", 1, "k: out a; a = b; out b; if c goto k; out a;");
    }

    private static void copyToTheEndOfTheBlock() {
        made(COPY, "a = b; in c; out c; d = c + c; out a; if a goto z; z:", 2, "a = b; in c; out c; d = c + c; out b; if b goto z; z:");
        made(COPY, "out 1; halt; a = b; out a;", 1, "out 1; halt; a = b; out b;");
        made(COPY, "in a; b = a; c = 1 + b; d = b + 1; e = b * b;", 4, "in a; b = a; c = 1 + a; d = a + 1; e = a * a;");
    }

    /** copy: "if it assigns x, x is a copy of nothing, and nothing is a copy of x any more; then, if it is now x = y with another variable y" */
    private static void copyOrNot() {
        made(COPY, "a = b; a = 5; out a;", 0, "a = b; a = 5; out a;");
        made(COPY, "a = b; a = c + 1; out a;", 0, "a = b; a = c + 1; out a;");
        made(COPY, "a = b; in a; out a;", 0, "a = b; in a; out a;");
        made(COPY, "a = b; b = 5; out a;", 0, "a = b; b = 5; out a;");
        made(COPY, "a = b; b = c + 1; out a;", 0, "a = b; b = c + 1; out a;");
        made(COPY, "a = b; in b; out a;", 0, "a = b; in b; out a;");
        made(COPY, "a = b; b = c; out a; out b;", 1, "a = b; b = c; out a; out c;");
        made(COPY, "a = b; a = c; out a; b = 1; out a;", 2, "a = b; a = c; out c; b = 1; out c;");
        made(COPY, "a = b; a = a + a; out a;", 2, "a = b; a = b + b; out a;");
        made(COPY, "a = b; b = a + a; out a;", 2, "a = b; b = b + b; out a;");
        made(COPY, "a = b; c = a; d = c; out d; out c; out a;", 5, "a = b; c = b; d = b; out b; out b; out b;");
        made(COPY, "a = b; c = a; a = 1; out c; out a;", 2, "a = b; c = b; a = 1; out b; out a;");
        made(COPY, "a = b; c = b; in b; out a; out c;", 0, "a = b; c = b; in b; out a; out c;");
        made(COPY, "a = b; in c; out a;", 1, "a = b; in c; out b;");
        made(COPY, "a = b; b = a;", 2, "a = b;");
        made(COPY, "a = 5; b = a; out b;", 1, "a = 5; b = a; out a;");
        made(COPY, "a = b; out b;", 0, "a = b; out b;");
    }

    /** copy: "if it is now x = x, it is dropped (one change more), and nothing more is done for it" */
    private static void copyItself() {
        made(COPY, "a = a; out a;", 1, "out a;");
        made(COPY, "a = a; a = a; a = a;", 3, "");
        made(COPY, "a = b; b = b; out a;", 2, "a = b; out b;");
        made(COPY, "a = b; b = a; out a;", 3, "a = b; out b;");
        made(COPY, "a = b; a = a; out a;", 2, "a = b; a = b; out b;");
        made(COPY, "a = b; c = b; b = c; out a; out c;", 4, "a = b; c = b; out b; out b;");
        made(COPY, "a = a + 0; out a;", 0, "a = a + 0; out a;");
        made(COPY, "k: a = a; goto k; a = a; l: a = a;", 3, "k: goto k; l:");
    }

    /** value: "stands ahead of it in the block" */
    private static void valuesInTheirBlock() {
        for (String end : BLOCK_ENDS) {
            same(VALUE, "a = b + c; " + end + " d = b + c; z:");
        }
        made(VALUE, "a = b + c; in e; out e; f = e - 1; d = b + c;", 1, "a = b + c; in e; out e; f = e - 1; d = a;");
        made(VALUE, "k: a = b + c; d = b + c; e = b + c; if d goto k; f = b + c;", 2, "k: a = b + c; d = a; e = a; if d goto k; f = b + c;");
        made(VALUE, "halt; a = b + c; d = b + c;", 1, "halt; a = b + c; d = a;");
        same(VALUE, "a = b + c;");
        same(VALUE, "out a; halt;");
    }

    /** value: "with the same v, op and w; for + * & | ^ = also w op v" */
    private static void valuesWithTheSameParts() {
        String[] ops = "+ - * / % & | ^ < =".split(" ");
        String[][] pairs = {{"b", "c"}, {"b", "3"}, {"3", "b"}, {"3", "4"}, {"-3", "3"}, {"b", "0"}};
        for (String op : ops) {
            boolean canTurn = "+*&|^=".contains(op);
            for (String[] pair : pairs) {
                String one = "a = " + pair[0] + " " + op + " " + pair[1] + "; ";
                String turned = "d = " + pair[1] + " " + op + " " + pair[0] + ";";
                made(VALUE, one + one.replace('a', 'd').trim(), 1, one + "d = a;");
                made(VALUE, one + turned, canTurn ? 1 : 0, one + (canTurn ? "d = a;" : turned));
            }
            made(VALUE, "a = b " + op + " b; d = b " + op + " b;", 1, "a = b " + op + " b; d = a;");
            String first = "a = b " + op + " c; ";
            for (String other : new String[] {"b", "d", "0", "3"}) {
                same(VALUE, first + "d = b " + op + " " + other + ";");
                same(VALUE, first + "d = " + other + " " + op + " b;");
                same(VALUE, first.replace(" c;", " 4;") + "d = b " + op + " " + other + ";");
                same(VALUE, first.replace(" c;", " 4;") + "d = " + other + " " + op + " b;");
                same(VALUE, first.replace(" b ", " 4 ") + "d = " + other.replace('b', 'd') + " " + op + " c;");
                same(VALUE, first.replace(" b ", " 4 ") + "d = c " + op + " " + other.replace('b', 'd') + ";");
            }
            same(VALUE, first + "d = c " + op + " c;");
            for (String other : ops) {
                if (!other.equals(op)) {
                    same(VALUE, first + "d = b " + other + " c;");
                    same(VALUE, first + "d = c " + other + " b;");
                }
            }
        }
        same(VALUE, "a = 3 + 4; d = 4 + 5;");
        same(VALUE, "a = 3 + 4; d = 5 + 3;");
        same(VALUE, "a = 3 + 4; d = -3 + 4;");
        same(VALUE, "a = 0 + 4; d = b + 4;");
        same(VALUE, "a = 4 + 0; d = 4 + b;");
        same(VALUE, "a = 0 + 0; d = b + 0;");
        same(VALUE, "a = 5; d = 5;");
        same(VALUE, "a = b; d = b;");
        same(VALUE, "in a; in d;");
    }

    /** value: "y is none of v and w, and between that instruction and this one (these two do not count) nothing assigns y, v or w" */
    private static void valuesThatStillHold() {
        same(VALUE, "b = b + c; d = b + c;");
        same(VALUE, "c = b + c; d = b + c;");
        same(VALUE, "b = b + b; d = b + b;");
        made(VALUE, "a = b + c; b = b + c;", 1, "a = b + c; b = a;");
        made(VALUE, "a = b + c; c = b + c;", 1, "a = b + c; c = a;");
        made(VALUE, "a = b + c; a = b + c;", 1, "a = b + c; a = a;");
        for (String name : new String[] {"a", "b", "c"}) {
            for (String line : new String[] {"# = 7; ", "# = e; ", "# = e - 7; ", "in #; "}) {
                String between = line.replace("#", name);
                same(VALUE, "a = b + c; " + between + "d = b + c;");
                same(VALUE, "a = b + c; out 1; " + between + "out 2; d = c + b;");
                made(VALUE, between + "a = b + c; d = b + c;", 1, between + "a = b + c; d = a;");
                made(VALUE, "a = b + c; d = b + c; " + between.trim(), 1, "a = b + c; d = a; " + between.trim());
            }
        }
        made(VALUE, "a = b + c; d = 7; e = d; in f; out a; d = b + c;", 1, "a = b + c; d = 7; e = d; in f; out a; d = a;");
        made(VALUE, "a = b + 1; b = b + 1; d = b + 1;", 1, "a = b + 1; b = a; d = b + 1;");
    }

    /** value: "as the pass left it", "of several the first one" */
    private static void valuesAsThePassLeftThem() {
        made(VALUE, "a = b + c; d = b + c; e = b + c;", 2, "a = b + c; d = a; e = a;");
        made(VALUE, "a = b + c; d = b + c; a = 1; e = b + c;", 1, "a = b + c; d = a; a = 1; e = b + c;");
        made(VALUE, "a = b + c; a = b + c; d = b + c;", 1, "a = b + c; a = a; d = b + c;");
        made(VALUE, "a = b + c; a = 1; d = b + c; e = b + c;", 1, "a = b + c; a = 1; d = b + c; e = d;");
        made(VALUE, "a = b + c; in b; d = b + c; e = c + b; f = b + c;", 2, "a = b + c; in b; d = b + c; e = d; f = d;");
    }

    /** drop: "it cannot be come to (from the first one, going on behind and along gotos and ifs), and is no label" */
    private static void cannotBeComeTo() {
        made(DROP, "halt; a = 1; out a; in a; b = a + a; halt; halt;", 6, "halt;");
        made(DROP, "z: goto z; out 1;", 1, "z: goto z;");
        made(DROP, "halt; k: out 1; if a goto k; goto k;", 4, "halt;");
        made(DROP, "if a goto z; halt; out 1; z: out 2;", 1, "if a goto z; halt; z: out 2;");
        same(DROP, "if 0 goto z; halt; z: out 2;");
        same(DROP, "if 1 goto z; out 1; z: out 2;");
        same(DROP, "z: out 1; if 1 goto z; out 2;");
        made(DROP, "goto k; m: out 1; halt; k: out 2; goto m;", 0, "goto k; m: out 1; halt; k: out 2; goto m;");
        made(DROP, "goto k; m: out 1; halt; k: out 2;", 5, "out 2;");
        made(DROP, "out 1; halt; halt;", 1, "out 1; halt;");
        made(DROP, "in a; k: if a goto k; goto k; out 1;", 1, "in a; k: if a goto k; goto k;");
    }

    /** drop: "it is x = v or x = v op w, and x is not live behind it" */
    private static void isNotLive() {
        made(DROP, "a = 1;", 1, "");
        made(DROP, "a = b;", 1, "");
        made(DROP, "a = b + c;", 1, "");
        made(DROP, "a = a + 1;", 1, "");
        same(DROP, "in a;");
        same(DROP, "a = 1; out a;");
        same(DROP, "a = 1; out 7; in b; out a;");
        same(DROP, "a = 1; b = a + 2; out b;");
        same(DROP, "a = 1; b = 2 + a; out b;");
        same(DROP, "a = 1; if a goto z; out 1; z:");
        same(DROP, "a = 1; a = a + 1; out a;");
        made(DROP, "a = 1; in a; out a;", 1, "in a; out a;");
        made(DROP, "a = 1; a = 2; out a;", 1, "a = 2; out a;");
        made(DROP, "a = 1; if b goto z; a = 2; z: out a;", 0, "a = 1; if b goto z; a = 2; z: out a;");
        made(DROP, "a = 1; if b goto z; out a; halt; z: a = 2; out a;", 0, "a = 1; if b goto z; out a; halt; z: a = 2; out a;");
        made(DROP, "a = 1; if b goto z; out 1; halt; z: a = 2; out a;", 1, "if b goto z; out 1; halt; z: a = 2; out a;");
        same(DROP, "a = 1; if 0 goto z; halt; z: out a;");
        same(DROP, "k: out a; a = 1; if b goto k;");
        made(DROP, "k: a = 1; out 2; if b goto k;", 1, "k: out 2; if b goto k;");
        made(DROP, "k: a = a + 1; if b goto k;", 0, "k: a = a + 1; if b goto k;");
        made(DROP, "a = 1; halt; out a;", 2, "halt;");
        made(DROP, "a = 1; b = a; c = b; d = c;", 4, "");
    }

    /** drop: "it is a goto, and behind it, with nothing but labels between, stands its label" */
    private static void gotosToWhatStandsBehind() {
        made(DROP, "goto z; z:", 2, "");
        made(DROP, "goto z; k: m: z: out 1; if a goto k; if a goto m; if a goto z;", 1, "k: m: z: out 1; if a goto k; if a goto m; if a goto z;");
        made(DROP, "goto k; k: m: z: out 1; if a goto k; if a goto m; if a goto z;", 1, "k: m: z: out 1; if a goto k; if a goto m; if a goto z;");
        same(DROP, "if a goto z; z: out 1;");
        same(DROP, "if a goto z; z:");
        same(DROP, "z: goto z;");
        same(DROP, "in a; k: out 1; z: if a goto k; goto z;");
        made(DROP, "in a; if a goto k; goto z; k: out 1; z: out 2;", 0, "in a; if a goto k; goto z; k: out 1; z: out 2;");
        made(DROP, "in a; if a goto k; goto z; k: z: out 2;", 2, "in a; if a goto k; k: out 2;");
        made(DROP, "goto z; out 1; z: out 2; if a goto z;", 2, "z: out 2; if a goto z;");
    }

    /** drop: "it is a label to which no goto and no if leads" */
    private static void labelsWithoutJumps() {
        made(DROP, "z:", 1, "");
        made(DROP, "k: m: z:", 3, "");
        made(DROP, "k: out 1; m: if a goto m; z:", 2, "out 1; m: if a goto m;");
        same(DROP, "out 1; m: if a goto m;");
        same(DROP, "if a goto m; out 1; m:");
        made(DROP, "in a; if a goto m; out 1; goto k; k: m: halt; goto k;", 3, "in a; if a goto m; out 1; m: halt;");
    }

    /** drop: "again and again ... the first such instruction is dropped": also one that stands ahead of the dropped ones. */
    private static void firstInstructionIsDroppedFirst() {
        made(DROP, "a = 5; b = a; goto z; out b; z: out 1;", 5, "out 1;");
        made(DROP, "z: a = b; halt; out a; goto z;", 4, "halt;");
        made(DROP, "k: in a; if a goto m; halt; out a; goto k; m: b = a;", 4, "in a; if a goto m; halt; m:");
    }

    /** Each pass comes to the 80th instruction, and to whatever stands ahead of it. */
    private static void eightyInstructions() {
        String ones = "out 1; ".repeat(77);
        madeOfMany(FOLD, "a = 5; b = 6; " + ones + "out b;", 1, "a = 5; b = 6; " + ones + "out 6;");
        madeOfMany(FOLD, "z: a = 0; " + ones + "if a goto z;", 2, "z: a = 0; " + ones.trim());
        madeOfMany(COPY, "a = b; in c; " + ones + "b = a;", 2, "a = b; in c; " + ones.trim());
        madeOfMany(VALUE, "a = b + 1; in c; " + ones + "d = b + 1;", 1, "a = b + 1; in c; " + ones + "d = a;");
        madeOfMany(DROP, "in a; z: " + ones + "if a goto z;", 0, "in a; z: " + ones + "if a goto z;");
        madeOfMany(DROP, "in a; in b; " + ones + "b = 5;", 1, "in a; in b; " + ones.trim());
        madeOfMany(DROP, "a = 5; ".repeat(79) + "b = a;", 80, "");
        madeOfMany(MOVE, "z: in b; " + ones + "goto z;", 0, "z: in b; " + ones + "goto z;");
        madeOfMany(MOVE, "z: " + ones + "a = 5; goto z;", 1, "a = 5; z: " + ones + "goto z;");
        madeOfMany(MOVE, "z: " + "a = 5; ".repeat(78) + "goto z;", 0, "z: " + "a = 5; ".repeat(78) + "goto z;");
        PassForge x = Check.with("z: in b; " + ones + "goto z;");
        Check.is("80 instructions", x.count(0, 0), 80);
        Check.is("one loop", x.count(0, 4), 1);
        Check.is("better changes nothing", x.better(0), 0);
        Check.is("runs on", x.run(1, 5000), 5000);
        Check.is("reads again", x.ran(2), 64);
    }

    private static void madeOfMany(int pass, String text, int changes, String due) {
        StringBuilder shown = new StringBuilder();
        for (int from = 0; from < 80; from += 40) {
            PassForge x = Check.with(text);
            Check.is("pass " + pass + " of " + text, x.pass(0, pass), changes);
            shown.append(' ').append(Check.show(x, 1, text, from, from + 40));
        }
        Check.same("pass " + pass + " of " + text, shown.toString().trim(), due);
    }
}
