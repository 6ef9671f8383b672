/** Promises 1 to 6: a new object, feed, trim, compile, errorAt, programs. */
public final class TextTest {
    private static final Class<?> FULL = IllegalStateException.class;
    private static final Class<?> ARGUMENT = IllegalArgumentException.class;

    public static void main(String[] args) {
        newObject();
        feedAndTrim();
        fullTape();
        tokens();
        forms();
        longTokens();
        lineBeginnings();
        tooManyInstructions();
        tooManyNames();
        labelsTwice();
        labelsThatAreMissing();
        firstErrorIsTold();
        numbering();
        tapeBehindCompile();
        twelvePrograms();
        Check.end("TextTest");
    }

    private static void newObject() {
        PassForge x = new PassForge();
        Check.is("new programs", x.programs(), 0);
        Check.is("new errorAt", x.errorAt(), -1);
        Check.is("new tape", x.trim(0), 0);
        Check.fails("new trim(1)", ARGUMENT, () -> x.trim(1));
        Check.is("new input", x.empty(), 0);
        for (int what = 0; what < 3; what++) {
            Check.is("new ran", x.ran(what), 0);
        }
        Check.is("new variable", x.variable(11), 0);
        Check.fails("new output", IndexOutOfBoundsException.class, () -> x.output(0));
    }

    private static void feedAndTrim() {
        PassForge x = new PassForge();
        // "halt;" in the first five bytes, the highest byte of each number first
        Check.is("feed", x.feed(0x68616c74, 0x3b202020, 0x0a0a0a0a, 0x20202020, 0x20202020), 20);
        Check.is("compile fed bytes", x.compile(), 0);
        Check.is("one halt", x.code(0, 0, 0), 7);
        x.feed(-1, -1, -1, -1, -1);
        Check.is("second feed", x.feed(0, 0, 0, 0, 0), 40);
        Check.is("trim to all", x.trim(40), 40);
        Check.is("trim", x.trim(7), 7);
        Check.fails("trim beyond", ARGUMENT, () -> x.trim(8));
        Check.fails("trim below", ARGUMENT, () -> x.trim(-1));
        Check.fails("trim far below", ARGUMENT, () -> x.trim(Integer.MIN_VALUE));
        Check.is("feed behind a trim", x.feed(0, 0, 0, 0, 0), 27);
        Check.is("error at a byte of 255", x.compile(), 1);
        Check.is("at its place", x.errorAt(), 0);
    }

    private static void fullTape() {
        PassForge x = new PassForge();
        for (int i = 1; i <= 80; i++) {
            Check.is("feed " + i, x.feed(0x20202020, 0x20202020, 0x20202020, 0x20202020, 0x20202020), 20 * i);
        }
        Check.fails("feed beyond 1600", FULL, () -> x.feed(0, 0, 0, 0, 0));
        x.trim(1581);
        Check.fails("feed to 1601", FULL, () -> x.feed(0, 0, 0, 0, 0));
        Check.is("trim changed nothing else", x.trim(1581), 1581);
        x.trim(1580);
        Check.is("feed to 1600", x.feed(0x20202020, 0x20202020, 0x20202020, 0x20202020, 0x20202020), 1600);
        Check.is("blanks alone", x.compile(), 1);
        Check.is("error at the end", x.errorAt(), 1600);
    }

    /** A text, its error, and its place. */
    private static void told(String text, int error, int at) {
        PassForge x = new PassForge();
        Check.is("error of " + text, Check.compile(x, text), error);
        Check.is("place of the error of " + text, x.errorAt(), at);
        Check.is("programs behind " + text, x.programs(), error == 0 ? 1 : 0);
    }

    private static void fine(String text) {
        told(text, 0, -1);
    }

    private static void tokens() {
        fine("x=1;");
        fine("\n \n x\n=\n1 ; \n");
        fine("x=1+-2;y=-1--3;");
        told("ina;", 1, 3);
        told("inx;", 1, 3);
        told("in x", 1, 4);
        fine("in x;");
        fine("out 5;");
        told("out5;", 1, 4);
        fine("if 1goto a;a:");
        told("if1 goto a;a:", 1, 4);
        told("x=5a;", 1, 3);
        told("x=5 6;", 1, 4);
        told("x=1;\t", 1, 4);
        told("x=1;\r", 1, 4);
        told("x=1;\0", 1, 4);
        told("X=1;", 1, 0);
        told("x_=1;", 1, 1);
        told("x=1;\u00e9", 1, 4);
        told("x=1,", 1, 3);
        told("x!=1;", 1, 1);
        told("x=1>2;", 1, 3);
        told("x=(1);", 1, 2);
    }

    private static void forms() {
        told("", 1, 0);
        told("  ", 1, 2);
        told("halt", 1, 4);
        told("halt  ", 1, 6);
        fine("halt;");
        told("halt;;", 1, 5);
        told("halt: halt;", 1, 4);
        told("x", 1, 1);
        told("x=", 1, 2);
        told("x=1", 1, 3);
        told("x=-", 1, 3);
        told("x=-y;", 1, 3);
        told("x=--1;", 1, 3);
        told("x==1;", 1, 2);
        fine("x=1=1;");
        fine("x=y<-3;");
        told("x=y+;", 1, 4);
        told("x=y+1+1;", 1, 5);
        told("x=y z;", 1, 4);
        told("x=goto;", 1, 2);
        told("5=x;", 1, 0);
        told(":", 1, 0);
        told("-", 1, 0);
        told("x 1;", 1, 2);
        told("goto;", 1, 4);
        told("goto 1;", 1, 5);
        told("goto if;", 1, 5);
        told("goto; $", 1, 4);
        told("in; $", 1, 2);
        told("goto a", 1, 6);
        told("if x a;", 1, 5);
        told("if goto a;", 1, 3);
        told("if x goto a; a", 1, 14);
        told("if x+1 goto a;", 1, 4);
        told("in 5;", 1, 3);
        told("in -x;", 1, 3);
        told("out;", 1, 3);
        told("out a b;", 1, 6);
        told("out -x;", 1, 5);
        fine("out -5;");
        fine("a: b: c:");
        told("a:;", 1, 2);
        told("goto: x=1;", 1, 4);
    }

    private static void longTokens() {
        fine("abcdef=1;");
        told("abcdefg=1;", 1, 0);
        fine("a12345: halt;");
        told("x=abcdefg;", 1, 2);
        told("goto abcdefg;", 1, 5);
        fine("x=123456;");
        fine("x=000001;");
        told("x=1234567;", 1, 2);
        told("x=0000001;", 1, 2);
        told("x=-1234567;", 1, 3);
        told("x=y+1234567;", 1, 4);
        told("halting=1;", 1, 0);
        fine("halts=1;goto1=2;in2=inn;");
    }

    private static void lineBeginnings() {
        fine("x=1;x:goto x;");
        String both = "q: p = 1; goto p; p: q = p;";
        PassForge x = Check.with(both);
        Check.same("a name can be both", Check.show(x, 0, both), both);
        Check.is("two variables", x.count(0, 1), 2);
        Check.is("two labels", x.count(0, 2), 2);
    }

    private static String lines(String line, int count) {
        return line.repeat(count);
    }

    private static void tooManyInstructions() {
        fine(lines("out 1;", 80));
        told(lines("out 1;", 80) + "out 1;", 2, 480);
        told(lines("out 1;", 80) + "  halt $", 2, 482);
        told(lines("out 1;", 80) + "a:", 2, 480);
        told(lines("out 1;", 80) + "zz$", 2, 480);
        told(lines("out 1;", 80) + "out", 2, 480);
        told(lines("out 1;", 80) + "$", 1, 480);
        told(lines("out 1;", 80) + ";", 1, 480);
        told(lines("out 1;", 80) + "7=x;", 1, 480);
        told(lines("out 1;", 80) + "abcdefg=1;", 1, 480);
        told(lines("out 1;", 79) + "a:halt;", 2, 476);
        fine(lines("out 1;", 79) + "a:");
        fine(lines("out 1;", 80) + "  ");
        told(lines("out 1;", 79) + "out 1 out 1;", 1, 480);
    }

    private static String variables(int count) {
        StringBuilder text = new StringBuilder();
        for (int i = 0; i < count; i++) {
            text.append("in ").append((char) ('a' + i)).append(";");
        }
        return text.toString();
    }

    private static String labels(int count) {
        StringBuilder text = new StringBuilder();
        for (int i = 0; i < count; i++) {
            text.append((char) ('a' + i)).append(":");
        }
        return text.toString();
    }

    private static void tooManyNames() {
        fine(variables(12));
        told(variables(13), 2, 63);
        told(variables(12) + "m=1;", 2, 60);
        told(variables(12) + "m= $", 2, 60);
        told(variables(12) + "m $", 1, 62);
        told(variables(12) + "m", 1, 61);
        told(variables(12) + "a=m;", 2, 62);
        told(variables(12) + "a=1+m;", 2, 64);
        told(variables(12) + "out m;", 2, 64);
        told(variables(12) + "if m goto x;", 2, 63);
        told(variables(11) + "l=m;", 2, 57);
        fine(labels(12));
        fine(labels(12) + variables(12));
        told(labels(13), 2, 24);
        told(labels(12) + "goto m;", 2, 29);
        told(labels(12) + "goto m $", 2, 29);
        told(labels(12) + "if 1 goto m;", 2, 34);
        told("goto z;" + labels(12), 2, 29);
    }

    private static void labelsTwice() {
        told("b: b: halt;", 2, 3);
        told("goto b; b: out 1; goto b; b: halt;", 2, 26);
        told("b: x=1; b $", 1, 10);
        told("b: x=1; b :$", 2, 8);
        fine("b: b=1; b=2;");
    }

    private static void labelsThatAreMissing() {
        told("goto a; b: halt;", 3, 5);
        told("b: if 1 goto c; goto d; goto b;", 3, 13);
        told("goto b; goto c; b: goto d; goto c;", 3, 13);
        told("goto a; a = 1;", 3, 5);
        fine("goto a; a:");
    }

    private static void firstErrorIsTold() {
        told("goto a; b: b: halt;", 2, 11);
        told("goto a; b: b: $", 2, 11);
        told("goto a; $ b: b:", 1, 8);
        told("goto a; halt $", 1, 13);
        told("goto a; halt", 1, 12);
    }

    private static void numbering() {
        PassForge x = Check.with("c = b + a; goto z; out d; y: in a; z: if d goto y;");
        Check.is("c", x.code(0, 0, 1), 0);
        Check.is("b", x.code(0, 0, 3), 1);
        Check.is("a", x.code(0, 0, 4), 2);
        Check.is("d", x.code(0, 2, 3), 3);
        Check.is("label z behind goto", x.code(0, 1, 1), 0);
        Check.is("label y", x.code(0, 3, 1), 1);
        Check.is("label z", x.code(0, 5, 1), 0);
    }

    private static void tapeBehindCompile() {
        PassForge x = new PassForge();
        Check.compile(x, "$");
        Check.is("error", x.errorAt(), 0);
        Check.fails("empty tape behind an error", ARGUMENT, () -> x.trim(1));
        Check.compile(x, "halt;");
        Check.is("no error any more", x.errorAt(), -1);
        Check.fails("empty tape behind a program", ARGUMENT, () -> x.trim(1));
        Check.is("empty text", x.compile(), 1);
        Check.is("at its end", x.errorAt(), 0);
        Check.is("the programs stay", x.programs(), 1);
    }

    private static void twelvePrograms() {
        PassForge x = new PassForge();
        for (int i = 0; i < 12; i++) {
            Check.is("compile", Check.compile(x, "out " + i + ";"), 0);
            Check.is("programs", x.programs(), i + 1);
        }
        Check.feed(x, "x $");
        long before = x.digest();
        Check.fails("a 13th program", FULL, x::compile);
        Check.is("nothing changed", x.digest(), before);
        Check.is("no error noted", x.errorAt(), -1);
        Check.is("the tape stays", x.trim(3), 3);
        for (int i = 0; i < 12; i++) {
            Check.is("in the order in which they were made", x.number(i, 0, false), i);
        }
    }
}
