import java.util.ArrayList;
import java.util.List;
import java.util.concurrent.Callable;
import java.util.regex.Matcher;
import java.util.regex.Pattern;

/** What the tests share: comparing answers, and putting a text on the tape. */
final class Check {
    private static int asked;
    private static int wrong;

    private Check() {
    }

    static void same(String what, Object got, Object due) {
        asked++;
        if (!got.equals(due)) {
            wrong++;
            System.out.println(what + " answered " + got + ", due is " + due);
        }
    }

    static void is(String what, long got, long due) {
        same(what, got, due);
    }

    /** What a call answers, or the name of the exception that it throws. */
    static Object answer(Callable<?> call) {
        try {
            return call.call();
        } catch (Exception e) {
            return e.getClass().getName();
        }
    }

    static void fails(String what, Class<?> due, Callable<?> call) {
        same(what, answer(call), due.getName());
    }

    /** Makes the tape a text, each of its signs being a byte. */
    static void feed(PassForge x, String text) {
        x.trim(0);
        for (int at = 0; at < text.length(); at += 20) {
            x.feed(four(text, at), four(text, at + 4), four(text, at + 8), four(text, at + 12), four(text, at + 16));
        }
        x.trim(text.length());
    }

    static int four(String text, int at) {
        int number = 0;
        for (int i = at; i < at + 4; i++) {
            number = number << 8 | (i < text.length() ? text.charAt(i) & 255 : ' ');
        }
        return number;
    }

    static int compile(PassForge x, String text) {
        feed(x, text);
        return x.compile();
    }

    /** A workshop with the program of a text as its program 0. */
    static PassForge with(String text) {
        PassForge x = new PassForge();
        is("compile of " + text, compile(x, text), 0);
        return x;
    }

    /** Ends a test: exit code 1, if an answer was wrong. */
    static void end(String test) {
        System.out.println(test + ": " + asked + " answers looked at, " + wrong + " wrong");
        if (wrong > 0 || asked == 0) {
            System.exit(1);
        }
    }

    static int wrong() {
        return wrong;
    }

    /** A program as a text again, told by code() and number(), with the names that an older text has. */
    static String show(PassForge x, int program, String names) {
        return show(x, program, names, 0, 80);
    }

    /** The instructions from one place to another: an object is asked 512 times at most, and each one takes seven calls. */
    static String show(PassForge x, int program, String names, int from, int to) {
        List<String> variables = new ArrayList<>();
        List<String> labels = new ArrayList<>();
        findNames(names, variables, labels);
        StringBuilder text = new StringBuilder();
        int end = Math.min(to, x.count(program, 0));
        for (int i = from; i < end; i++) {
            int[] code = new int[5];
            for (int what = 0; what < code.length; what++) {
                code[what] = x.code(program, i, what);
            }
            long[] numbers = {x.number(program, i, false), x.number(program, i, true)};
            tellsNothingElse("instruction " + i, code, numbers);
            text.append(i == from ? "" : " ").append(showOne(code, numbers, variables, labels));
        }
        return text.toString();
    }

    /** What an instruction has not, is told as -1 by code() and as 0 by number(). */
    private static void tellsNothingElse(String name, int[] code, long[] numbers) {
        int sort = code[0];
        boolean[] has = {true, sort < 6, sort == 2, sort == 1 || sort == 2 || sort == 4 || sort == 6, sort == 2};
        for (int what = 1; what < code.length; what++) {
            boolean isNone = code[what] == -1;
            boolean isAllowed = code[what] >= -1 && (what < 3 ? isNone != has[what] : isNone || has[what]);
            same("what " + what + " of " + name + " of sort " + sort + ", " + code[what] + ", can be", isAllowed, true);
        }
        if (!has[3] || code[3] >= 0) {
            is("number v of " + name, numbers[0], 0);
        }
        if (!has[4] || code[4] >= 0) {
            is("number w of " + name, numbers[1], 0);
        }
    }

    private static void findNames(String text, List<String> variables, List<String> labels) {
        Matcher words = Pattern.compile("(goto +)?\\b([a-z][a-z0-9]*)\\b( *:)?").matcher(text);
        while (words.find()) {
            String name = words.group(2);
            List<String> names = words.group(1) != null || words.group(3) != null ? labels : variables;
            if (!name.matches("goto|if|in|out|halt") && !names.contains(name)) {
                names.add(name);
            }
        }
    }

    private static String showOne(int[] code, long[] numbers, List<String> variables, List<String> labels) {
        int name = code[1];
        String v = showValue(code[3], numbers[0], variables);
        String w = showValue(code[4], numbers[1], variables);
        switch (code[0]) {
            case 0: return labels.get(name) + ":";
            case 1: return variables.get(name) + " = " + v + ";";
            case 2: return variables.get(name) + " = " + v + " " + "+-*/%&|^<=".charAt(code[2]) + " " + w + ";";
            case 3: return "goto " + labels.get(name) + ";";
            case 4: return "if " + v + " goto " + labels.get(name) + ";";
            case 5: return "in " + variables.get(name) + ";";
            case 6: return "out " + v + ";";
            case 7: return "halt;";
            default: return "?";
        }
    }

    private static String showValue(int variable, long number, List<String> variables) {
        return variable < 0 ? Long.toString(number) : variables.get(variable);
    }
}
