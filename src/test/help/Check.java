import java.util.ArrayList;
import java.util.List;
import java.util.concurrent.Callable;
import java.util.regex.Matcher;
import java.util.regex.Pattern;

/** What the tests share: comparing answers, and putting a text on the tape. */
final class Check {
    private static int asked;
    private static int wrong;

    private Check() {
    }

    static void same(String what, Object got, Object due) {
        asked++;
        if (!got.equals(due)) {
            wrong++;
            System.out.println(what + " answered " + got + ", due is " + due);
        }
    }

    static void is(String what, long got, long due) {
        same(what, got, due);
    }

    /** What a call answers, or the name of the exception that it throws. */
    static Object answer(Callable<?> call) {
        try {
            return call.call();
        } catch (Exception e) {
            return e.getClass().getName();
        }
    }

    static void fails(String what, Class<?> due, Callable<?> call) {
        same(what, answer(call), due.getName());
    }

    /** Feeds a text, each of its signs being a byte, and trims what stands behind it. */
    static void feed(PassForge x, String text) {
        int had = x.trim(0);
        for (int at = 0; at < text.length(); at += 20) {
            x.feed(four(text, at), four(text, at + 4), four(text, at + 8), four(text, at + 12), four(text, at + 16));
        }
        x.trim(had + text.length());
    }

    static int four(String text, int at) {
        int number = 0;
        for (int i = at; i < at + 4; i++) {
            number = number << 8 | (i < text.length() ? text.charAt(i) & 255 : ' ');
        }
        return number;
    }

    static int compile(PassForge x, String text) {
        feed(x, text);
        return x.compile();
    }

    /** A workshop with the program of a text as its program 0. */
    static PassForge with(String text) {
        PassForge x = new PassForge();
        is("compile of " + text, compile(x, text), 0);
        return x;
    }

    /** Ends a test: exit code 1, if an answer was wrong. */
    static void end(String test) {
        System.out.println(test + ": " + asked + " answers looked at, " + wrong + " wrong");
        if (wrong > 0 || asked == 0) {
            System.exit(1);
        }
    }

    static int wrong() {
        return wrong;
    }

    /** A program as a text again, told by code() and number(), with the names that an older text has. */
    static String show(PassForge x, int program, String names) {
        List<String> variables = new ArrayList<>();
        List<String> labels = new ArrayList<>();
        findNames(names, variables, labels);
        StringBuilder text = new StringBuilder();
        for (int i = 0; i < x.count(program, 0); i++) {
            text.append(text.length() == 0 ? "" : " ").append(showOne(x, program, i, variables, labels));
        }
        return text.toString();
    }

    private static void findNames(String text, List<String> variables, List<String> labels) {
        Matcher words = Pattern.compile("(goto +)?\\b([a-z][a-z0-9]*)\\b( *:)?").matcher(text);
        while (words.find()) {
            String name = words.group(2);
            List<String> names = words.group(1) != null || words.group(3) != null ? labels : variables;
            if (!name.matches("goto|if|in|out|halt") && !names.contains(name)) {
                names.add(name);
            }
        }
    }

    private static String showOne(PassForge x, int program, int i, List<String> variables, List<String> labels) {
        int name = x.code(program, i, 1);
        String v = showValue(x.code(program, i, 3), x.number(program, i, false), variables);
        String w = showValue(x.code(program, i, 4), x.number(program, i, true), variables);
        switch (x.code(program, i, 0)) {
            case 0: return labels.get(name) + ":";
            case 1: return variables.get(name) + " = " + v + ";";
            case 2: return variables.get(name) + " = " + v + " " + "+-*/%&|^<=".charAt(x.code(program, i, 2)) + " " + w + ";";
            case 3: return "goto " + labels.get(name) + ";";
            case 4: return "if " + v + " goto " + labels.get(name) + ";";
            case 5: return "in " + variables.get(name) + ";";
            case 6: return "out " + v + ";";
            case 7: return "halt;";
            default: return "?";
        }
    }

    private static String showValue(int variable, long number, List<String> variables) {
        return variable < 0 ? Long.toString(number) : variables.get(variable);
    }
}
