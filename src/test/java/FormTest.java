import java.util.ArrayList;
import java.util.List;

/** Section 1 of the document, sentence by sentence: tokens, forms, and which error is told where. */
public final class FormTest {
    /** Every form of a line, its tokens apart. Each text of these alone but for the labels has no error of form. */
    private static final String[] FORMS = {
        "l :", "x = y ;", "x = 7 ;", "x = - 7 ;", "x = y + z ;", "x = y - 7 ;", "x = 7 * y ;", "x = - 7 / - 8 ;", "x = y % z ;",
        "x = y & z ;", "x = y | z ;", "x = y ^ z ;", "x = y < z ;", "x = y = z ;", "goto l ;", "if x goto l ;", "if 7 goto l ;",
        "if - 7 goto l ;", "in x ;", "out x ;", "out 7 ;", "out - 7 ;", "halt ;"
    };
    private static final String[] KEYWORDS = {"goto", "if", "in", "out", "halt"};

    /** Places of a name, and of a number, each to be put for the sign #. */
    private static final String[] NAMES = {
        "#:", "#=1;", "x=#;", "x=#+1;", "x=1+#;", "if #goto l;l:", "in #;", "out #;", "goto #;", "if x goto #;"
    };
    private static final String[] NUMBERS = {"x=#;", "x=-#;", "x=#+1;", "x=1+#;", "x=1--#;", "if #goto l;l:", "if -#goto l;l:", "out #;", "out -#;"};

    private static final String TWELVE_IN = "in a;in b;in c;in d;in e;in f;in g;in h;in i;in j;in k;in m;";
    private static final String TWELVE_GOTO = "goto a;goto b;goto c;goto d;goto e;goto f;goto g;goto h;goto i;goto j;goto k;goto m;";
    private static final String TWELVE_LABELS = "a:b:c:d:e:f:g:h:i:j:k:m:";

    public static void main(String[] args) {
        everyByteBetweenTokens();
        everyByteInTokens();
        gapsOfEveryLength();
        gapsThatAreNeeded();
        longestTokens();
        whatANumberIs();
        namesThatAreOthers();
        keywordsAreNoNames();
        formsCutOff();
        formsBroken();
        everyShortText();
        emptyTexts();
        instruction81();
        variable13();
        label13();
        labelTwice();
        error2AndForm();
        error3();
        wholeTape();
        compilesAlone();
        Check.end("FormTest");
    }

    private static void told(String text, int error, int at) {
        PassForge x = new PassForge();
        Check.is("error of " + text, Check.compile(x, text), error);
        Check.is("place of the error of " + text, x.errorAt(), at);
        Check.is("programs behind " + text, x.programs(), error == 0 ? 1 : 0);
        Check.fails("the tape is empty behind " + text, IllegalArgumentException.class, () -> x.trim(1));
    }

    private static void fine(String text) {
        told(text, 0, -1);
    }

    private static boolean isLetter(int b) {
        return b >= 97 && b <= 122;
    }

    private static boolean isDigit(int b) {
        return b >= 48 && b <= 57;
    }

    private static boolean isOp(int b) {
        return b < 128 && "+-*/%&|^<=".indexOf((char) b) >= 0;
    }

    /** "Blanks (32) and line ends (10) can stand between tokens, at the beginning and at the end." */
    private static void everyByteBetweenTokens() {
        for (int b = 0; b < 256; b++) {
            String sign = String.valueOf((char) b);
            boolean isGap = b == 32 || b == 10;
            told(sign + "halt;", isGap ? 0 : 1, isGap ? -1 : isLetter(b) ? 5 : 0);
            told("halt;" + sign, isGap ? 0 : 1, isGap ? -1 : isLetter(b) ? 6 : 5);
            boolean isRead = isLetter(b) || isDigit(b);
            told("x" + sign + "=1;", isGap || isRead ? 0 : 1, isGap || isRead ? -1 : b == ':' || b == '=' ? 2 : 1);
        }
    }

    /** "A word: a letter a to z, followed by letters a to z and digits"; "Symbols, of one byte each"; "a byte with which no token begins". */
    private static void everyByteInTokens() {
        for (int b = 0; b < 256; b++) {
            String sign = String.valueOf((char) b);
            boolean isFine = isLetter(b) || isDigit(b) || b == '=' || b == ':';
            told("a" + sign + "c=1;", isFine ? 0 : 1, isFine ? -1 : b == 32 || b == 10 ? 2 : 1);
            isFine = isDigit(b) || isOp(b);
            told("x=1" + sign + "2;", isFine ? 0 : 1, isFine ? -1 : b == 32 || b == 10 || b == ';' ? 4 : 3);
        }
    }

    private static void gapsOfEveryLength() {
        for (String gap : new String[] {" ", "\n", "  ", " \n", "\n\n \n ", " ".repeat(100)}) {
            for (String form : FORMS) {
                String apart = gap + form.replace(" ", gap) + gap + (form.equals("l :") ? "" : "l:");
                fine(apart);
            }
        }
    }

    /** "and have to stand between two tokens that would otherwise be read as one" */
    private static void gapsThatAreNeeded() {
        for (String form : FORMS) {
            String close = form.replace(" ", "").replaceAll("(if|in|out|goto)([a-z0-9])", "$1 $2").replaceAll("([a-z])goto", "$1 goto");
            fine(close + (form.equals("l :") ? "" : "l:"));
        }
        told("gotol;l:", 1, 5);
        told("outx;", 1, 4);
        told("out7;", 1, 4);
        told("inx;", 1, 3);
        told("ifx goto l;l:", 1, 4);
        told("if xgoto l;l:", 1, 9);
        fine("out-7;");
        fine("if-7goto l;l:");
        fine("if 7goto l;l:");
        told("x=7y;", 1, 3);
        told("x=7 7;", 1, 4);
        told("x=y y;", 1, 4);
        told("h alt;", 1, 2);
        told("x=1 2 3;", 1, 4);
        fine("x=1-2;");
        fine("x=1 - - 2;");
        told("x=1---2;", 1, 5);
    }

    /** "at most 6 bytes in all; the longest possible one is read", "1 to 6 digits, likewise", "a word or number that is too long" */
    private static void longestTokens() {
        for (String name : NAMES) {
            int at = name.indexOf('#');
            String labels = name.contains("goto #") ? "abcdef:" : "";
            for (int length = 1; length <= 6; length++) {
                String end = labels.isEmpty() ? "" : "abcdef".substring(0, length) + ":";
                fine(name.replace("#", "abcdef".substring(0, length) + (name.contains("#goto") ? " " : "")) + end);
            }
            for (String longName : new String[] {"abcdefg", "a123456", "abcdef0", "haltzzz", "gotogoto", "a".repeat(1500)}) {
                told(name.replace("#", longName) + labels, 1, at);
            }
        }
        for (String number : NUMBERS) {
            int at = number.indexOf('#');
            for (String digits : new String[] {"0", "7", "10", "123", "9999", "00000", "123456", "999999", "000000"}) {
                fine(number.replace("#", digits));
            }
            for (String digits : new String[] {"1234567", "0000000", "0000001", "9999999", "12345678", "1".repeat(1500)}) {
                told(number.replace("#", digits), 1, at);
            }
        }
    }

    private static void whatANumberIs() {
        PassForge x = Check.with("x=999999+-999999;x=000012;x=-0;x=-000034;out-1;if-999999goto l;l:x=0-123456;");
        long[] first = {999999, 12, 0, -34, -1, -999999, 0, 0};
        long[] second = {-999999, 0, 0, 0, 0, 0, 0, 123456};
        for (int i = 0; i < first.length; i++) {
            Check.is("v of " + i, x.number(0, i, false), first[i]);
            Check.is("w of " + i, x.number(0, i, true), second[i]);
        }
    }

    /** Names are the same only if all their bytes are. */
    private static void namesThatAreOthers() {
        PassForge x = Check.with("abcdef=abcdeg;a=a0;a00=b;abcde=bcdef;ab=ba;");
        Check.is("all ten are others", x.count(0, 1), 10);
        PassForge y = Check.with("abcdef=1;abcdeg=2;abcdef=abcdeg;a:aa:a0:goto a0;goto aa;");
        Check.is("two variables", y.count(0, 1), 2);
        Check.is("three labels", y.count(0, 2), 3);
        Check.is("the same variable", y.code(0, 2, 1), 0);
        Check.is("the other variable", y.code(0, 2, 3), 1);
        Check.is("the third label", y.code(0, 6, 1), 2);
        Check.is("the second label", y.code(0, 7, 1), 1);
    }

    /** "The keywords are: goto if in out halt. All other words are names." */
    private static void keywordsAreNoNames() {
        for (String word : KEYWORDS) {
            for (String name : NAMES) {
                int at = name.indexOf('#');
                told(name.replace("#", word + " ") + "x:", 1, at == 0 ? word.length() + 1 : at);
            }
            for (String other : new String[] {word + "0", word + "a", "a" + word, word.substring(0, word.length() - 1), word + word.charAt(0)}) {
                fine(other + "=1;" + other + ":goto " + other + ";out " + other + ";in " + other + ";if " + other + " goto " + other + ";");
            }
        }
    }

    /** Error 1: "the end of the tape (at its length)" */
    private static void formsCutOff() {
        for (String form : FORMS) {
            String[] tokens = form.split(" ");
            StringBuilder text = new StringBuilder("halt;");
            for (int i = 0; i + 1 < tokens.length; i++) {
                text.append(' ').append(tokens[i]);
                for (String gap : new String[] {"", " ", "\n", "  \n "}) {
                    told(text + gap, 1, text.length() + gap.length());
                }
                told(text + " ".repeat(1600 - text.length()), 1, 1600);
                told(" ".repeat(1600 - text.length()) + text, 1, 1600);
            }
        }
    }

    /** Error 1: "the first token with which the tokens so far are not the beginning of a program" */
    private static void formsBroken() {
        String[] wrong = {"$", "A", "\0", "\t", "\r", "\u007f", "\u0080", "\u00e9", "\u00ff", "_", ".", ",", "(", ">", "!", "~", "abcdefg", "1234567"};
        for (String form : FORMS) {
            String[] tokens = form.split(" ");
            StringBuilder text = new StringBuilder("halt;");
            for (int i = 0; i < tokens.length; i++) {
                text.append(' ');
                for (String other : wrong) {
                    told(text + other, 1, text.length());
                    told(text + other + form.substring(String.join(" ", List.of(tokens).subList(0, i + 1)).length()), 1, text.length());
                }
                text.append(tokens[i]);
            }
        }
    }

    /** Every row of up to four tokens, at the beginning and in the midst of a line, as the Oracle reads it. */
    private static void everyShortText() {
        String[] tokens = {"x", "7", ";", ":", "=", "-", "+", "goto", "if", "in", "out", "halt"};
        List<String> rows = new ArrayList<>();
        for (String start : new String[] {"", "x: y = ", "if x goto ", "x: x = 7 + "}) {
            rows.add(start);
            int from = rows.size() - 1;
            for (int length = 1; length <= 4; length++) {
                int to = rows.size();
                for (int i = from; i < to; i++) {
                    for (String token : tokens) {
                        rows.add(rows.get(i) + token + " ");
                    }
                }
                from = to;
            }
        }
        PassForge x = new PassForge();
        Oracle due = new Oracle();
        for (int i = 0; i < rows.size(); i++) {
            if (i % 50 == 0 || x.programs() == 12) {
                x = new PassForge();
                due = new Oracle();
            }
            String text = rows.get(i);
            String told = told(x, text);
            String wanted = told(due, text);
            if (!told.equals(wanted)) {
                Check.same("error and place of " + text, told, wanted);
            }
        }
        Check.is("rows of tokens", rows.size(), 4 * (1 + 12 + 144 + 1728 + 20736));
    }

    private static String told(PassForge x, String text) {
        Check.feed(x, text);
        return x.compile() + " " + x.errorAt() + " " + x.programs();
    }

    private static String told(Oracle x, String text) {
        x.trim(0);
        for (int at = 0; at < text.length(); at += 20) {
            x.feed(Check.four(text, at), Check.four(text, at + 4), Check.four(text, at + 8), Check.four(text, at + 12), Check.four(text, at + 16));
        }
        x.trim(text.length());
        return x.compile() + " " + x.errorAt() + " " + x.programs();
    }

    /** "program = line { line }": no program is without a line. */
    private static void emptyTexts() {
        told("", 1, 0);
        told(" ", 1, 1);
        told("\n", 1, 1);
        told(" ".repeat(1600), 1, 1600);
        fine("halt;");
        fine("l:");
    }

    /** Error 2: "(at the first token, also if an error of form stands behind it in its line): the 81st instruction" */
    private static void instruction81() {
        String eighty = "l:" + "halt;".repeat(79);
        fine(eighty);
        fine(eighty + " \n ");
        fine("k:" + "halt;".repeat(78) + "l:");
        for (String form : FORMS) {
            String[] tokens = form.split(" ");
            String text = eighty + " \n ";
            for (int i = 0; i < tokens.length; i++) {
                text += tokens[i] + " ";
                told(text, 2, 400);
                told(text + "$", 2, 400);
                told(text + "abcdefg", 2, 400);
            }
            told(text + text, 2, 400);
        }
        for (String noBeginning : new String[] {"$", ";", ":", "=", "-", "+", "7", "1234567", "abcdefg", "\u00ff"}) {
            told(eighty + noBeginning + "x=1;", 1, 397);
            told(eighty + " " + noBeginning, 1, 398);
        }
        told("halt;".repeat(79) + "halt $ x=1;", 1, 400);
        told("halt;".repeat(80) + "l:", 2, 400);
        told("l:" + "halt;".repeat(79) + "l:", 2, 397);
        PassForge x = Check.with("halt;".repeat(80));
        Check.is("80 instructions", x.count(0, 0), 80);
    }

    /** Error 2: "(at the name): the 13th variable" */
    private static void variable13() {
        String[] places = {"#=1;", "x=#;", "x=#+1;", "x=1+#;", "if #goto l;l:", "in #;", "out #;"};
        for (String place : places) {
            String text = TWELVE_IN.replace("in m;", "in x;");
            int at = text.length() + place.indexOf('#');
            fine(text + place.replace("#", "a "));
            fine(text + place.replace("#", "x "));
            told(text + place.replace("#", "q "), 2, at);
            told(text + place.replace("#", "q ").replace(";", "$"), 2, at);
            told(text + "out a;" + place.replace("#", "q ") + "$", 2, at + 6);
        }
        told(TWELVE_IN + "z=z;", 2, 60);
        told(TWELVE_IN.substring(5) + "y=z;", 2, 57);
        told(TWELVE_IN.substring(5) + "y=1+z;", 2, 59);
        fine(TWELVE_IN.substring(5) + "y=1+y;");
        fine(TWELVE_IN + "z:goto z;");
        Check.is("12 variables", Check.with(TWELVE_IN).count(0, 1), 12);
    }

    /** Error 2: "the 13th label" */
    private static void label13() {
        fine(TWELVE_LABELS + TWELVE_GOTO);
        fine(TWELVE_GOTO + TWELVE_LABELS);
        for (String twelve : new String[] {TWELVE_LABELS, TWELVE_GOTO}) {
            int at = twelve.length();
            told(twelve + "z:", 2, at);
            told(twelve + "goto z;", 2, at + 5);
            told(twelve + "goto z $", 2, at + 5);
            told(twelve + "if 1 goto z;", 2, at + 10);
            told(twelve + "if z goto z;", 2, at + 10);
            told(twelve + "z:$", 2, at);
            told(twelve + "z $", 1, at + 2);
            told(twelve + "goto a; halt; z:", 2, at + 14);
        }
        fine(TWELVE_LABELS + "z=1;out z;");
        Check.is("12 labels", Check.with(TWELVE_LABELS).count(0, 2), 12);
        Check.is("both", Check.with(TWELVE_LABELS + TWELVE_IN).count(0, 2), 12);
        Check.is("both", Check.with(TWELVE_LABELS + TWELVE_IN).count(0, 1), 12);
    }

    /** Error 2: "a label that stands ahead of a : for the second time" */
    private static void labelTwice() {
        told("l:l:", 2, 2);
        told("l:halt; l :", 2, 8);
        told("l:halt; l :l:", 2, 8);
        told("goto l;l:goto l;l:", 2, 16);
        told("k:l:goto k;goto l;l:k:", 2, 18);
        told(TWELVE_LABELS + "m:", 2, 24);
        told(TWELVE_LABELS + "a:", 2, 24);
        told("l:halt;l=1;l:", 2, 11);
        fine("l:l=l;goto l;goto l;");
        told("l:l $", 1, 4);
        told("l:l;", 1, 3);
        told("l:l", 1, 3);
        told("l:l:$", 2, 2);
    }

    /** "The first of the errors 1 and 2 in the text is told (at one place error 1)." */
    private static void error2AndForm() {
        told(TWELVE_IN + "out $;in z;", 1, 64);
        told(TWELVE_IN + "out z;in $;", 2, 64);
        told(TWELVE_IN + "z", 1, 61);
        told(TWELVE_IN + "z ", 1, 62);
        told(TWELVE_IN + "z;", 1, 61);
        told(TWELVE_IN + "z z=1;", 1, 62);
        told(TWELVE_IN + "goto z", 1, 66);
        told(TWELVE_IN + TWELVE_LABELS + "out z;goto z;", 2, 88);
        told(TWELVE_IN + TWELVE_LABELS + "goto z;out z;", 2, 89);
        told(TWELVE_IN + TWELVE_LABELS + "if z goto z;", 2, 87);
        told(TWELVE_IN + TWELVE_LABELS + "a:out z;", 2, 84);
        told(TWELVE_IN + "halt;".repeat(68) + "z=1;", 2, 400);
        told(TWELVE_IN + "halt;".repeat(67) + "z=1;halt;", 2, 395);
        told("halt;".repeat(80) + "$", 1, 400);
        told("halt;".repeat(80) + "halt$", 2, 400);
        told("halt;".repeat(78) + "halt$halt;halt;", 1, 394);
        told("l:l:x $", 2, 2);
        told("x $ l:l:", 1, 2);
    }

    /** Error 3: "only if there is none of these: the first label behind a goto that stands ahead of no : (at the name)" */
    private static void error3() {
        told("goto l;", 3, 5);
        told("if 1 goto l;", 3, 10);
        told("  goto\nl ;", 3, 7);
        told("k:goto k;goto l;", 3, 14);
        told("k:goto k;goto l;goto m;if l goto l;", 3, 14);
        told("goto k;if 1 goto l;k:", 3, 17);
        told("goto l;l=1;", 3, 5);
        told("l=1;goto l;", 3, 9);
        told("goto l;k:k:", 2, 9);
        told("goto l;$", 1, 7);
        told("goto l", 1, 6);
        told("goto l;halt", 1, 11);
        told("goto l;" + "halt;".repeat(80), 2, 402);
        told("goto l;" + TWELVE_LABELS, 2, 29);
        told(TWELVE_GOTO, 3, 5);
        told(TWELVE_GOTO + "a:", 3, 12);
        told(TWELVE_GOTO + TWELVE_LABELS.substring(0, 22), 3, TWELVE_GOTO.length() - 2);
        fine("goto l;l:");
        fine("if x goto l;halt;l:");
        told("halt;".repeat(79) + "goto l;", 3, 400);
    }

    /** "The tape is a row of at most 1600 bytes": a program may fill it. */
    private static void wholeTape() {
        String line = "  out\n 999999 ;     ";
        String full = line.repeat(79) + "           out 1234;";
        Check.is("bytes", full.length(), 1600);
        PassForge x = Check.with(full);
        Check.is("80 instructions", x.count(0, 0), 80);
        Check.is("the last number", x.number(0, 79, false), 1234);
        told(full.substring(0, 1599) + " ", 1, 1600);
        told(full.substring(0, 1599), 1, 1599);
        told(full.substring(0, 1599) + "$", 1, 1599);
        told("a".repeat(1600), 1, 0);
        told("7".repeat(1600), 1, 0);
        told("x=" + "a".repeat(1598), 1, 2);
        told("x=" + "7".repeat(1598), 1, 2);
        told(";".repeat(1600), 1, 0);
        told("x=y+".repeat(400), 1, 5);
        told("a:".repeat(800), 2, 2);
        told("goto l;" + " ".repeat(1593), 3, 5);
        told(" ".repeat(1593) + "goto l;", 3, 1598);
    }

    /** A compile knows nothing of the ones ahead of it, with an error or without. */
    private static void compilesAlone() {
        PassForge x = new PassForge();
        String twelve = TWELVE_LABELS + TWELVE_IN;
        Check.is("an error behind many lines", Check.compile(x, twelve + "x=1+2;$"), 2);
        Check.is("its place", x.errorAt(), 84);
        Check.is("a label that is missing", Check.compile(x, "a:b:in p;in q;goto z;x=1+2;"), 3);
        Check.is("no program", x.programs(), 0);
        Check.is("a program of other names", Check.compile(x, "z:goto z;y=w;"), 0);
        Check.is("no error", x.errorAt(), -1);
        Check.is("only its instructions", x.count(0, 0), 3);
        Check.is("only its variables", x.count(0, 1), 2);
        Check.is("only its labels", x.count(0, 2), 1);
        Check.is("its names from 0", x.code(0, 2, 1), 0);
        Check.is("no w of another text", x.number(0, 2, true), 0);
        Check.is("twelve others", Check.compile(x, twelve.replace(" ", " z").replace(":", "z:")), 0);
        Check.is("instructions", x.count(1, 0), 24);
        Check.is("a label that another text has", Check.compile(x, "goto a;"), 3);
        Check.is("at the name", x.errorAt(), 5);
        Check.is("two programs", x.programs(), 2);
    }
}
