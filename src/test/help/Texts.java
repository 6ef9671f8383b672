/** Throws texts: programs of every form, with and without errors. */
final class Texts {
    private static final String[] LITTER = {
        ";", ":", "=", "+", "-", "goto ", "if ", "in ", "out ", "halt;", "x", "1234567", "abcdefg", " ", "\n", "%", "A", "\0",
        "\u00ff", "a1", "9", "l0:", "goto l0;", ",", "==", "-1", "x = ", "\t"
    };

    private final Dice dice;
    private final StringBuilder text = new StringBuilder();
    private int variables;
    private int labels;
    private int setLabels;
    private int openLabels;
    private String shape;
    private String ops;
    private String[] lastReckoning;

    Texts(Dice dice) {
        this.dice = dice;
    }

    String next() {
        text.setLength(0);
        int lines = dice.isOneOf(12) ? 70 + dice.below(14) : 1 + dice.below(dice.isOneOf(3) ? 50 : 16);
        variables = dice.isOneOf(25) ? 13 : 1 + dice.below(dice.isOneOf(3) ? 12 : 4);
        labels = dice.isOneOf(25) ? 13 : dice.below(dice.isOneOf(3) ? 12 : 4);
        String[] shapes = {"sssrrrgiioon", "srrrrrrrrrion", "sssssssoicr", "rrrrrgggiiih", "ooosrn", "srirsrirgo", "rvvvvnoc", "rvvsvo"};
        shape = shapes[dice.below(shapes.length)];
        ops = dice.isOneOf(2) ? "+-*/%&|^<=" : String.valueOf("+-*/%&|^<=".charAt(dice.below(10)));
        lastReckoning = null;
        openLabels = 0;
        setLabels = dice.isOneOf(12) ? labels - 1 : labels;
        for (int i = 0; i < lines && text.length() < 1500; i++) {
            addLine(lines - i);
        }
        while (openLabels < setLabels) {
            text.append(label(openLabels++)).append(":");
        }
        if (dice.isOneOf(4)) {
            text.append(dice.isOneOf(2) ? "out a;" : "out " + variable() + ";halt;");
        }
        litter();
        return text.length() > 1600 ? text.substring(0, 1600) : text.toString();
    }

    private void litter() {
        int count = dice.isOneOf(5) ? 1 + dice.below(3) : 0;
        for (int i = 0; i < count; i++) {
            int at = dice.below(text.length() + 1);
            if (dice.isOneOf(2)) {
                text.insert(at, LITTER[dice.below(LITTER.length)]);
            } else if (at < text.length()) {
                text.delete(at, Math.min(text.length(), at + 1 + dice.below(5)));
            }
        }
    }

    private void addLine(int left) {
        if (openLabels < setLabels && dice.below(left) < setLabels - openLabels) {
            text.append(label(openLabels++)).append(gap()).append(":").append(gap());
            return;
        }
        switch (shape.charAt(dice.below(shape.length()))) {
            case 's': add(variable(), "=", value()); break;
            case 'c': add(variable(), "=", variable()); break;
            case 'r': addReckoning(variable(), value(), op(), value()); break;
            case 'v': repeatReckoning(); break;
            case 'g': addJump("goto "); break;
            case 'i': addJump("if " + value() + " goto "); break;
            case 'n': add("in " + variable()); break;
            case 'h': add(dice.isOneOf(3) ? "halt" : "out " + value()); break;
            default: add("out " + value()); break;
        }
    }

    private void addReckoning(String x, String v, String op, String w) {
        add(x, "=", v, op, w);
        lastReckoning = new String[] {v, op, w};
    }

    /** The latest reckoning again, at times turned, for another variable. */
    private void repeatReckoning() {
        if (lastReckoning == null) {
            addReckoning(variable(), value(), op(), value());
            return;
        }
        boolean isTurned = dice.isOneOf(3);
        addReckoning(variable(), lastReckoning[isTurned ? 2 : 0], lastReckoning[1], lastReckoning[isTurned ? 0 : 2]);
    }

    private void addJump(String words) {
        if (labels == 0) {
            add("out " + value());
        } else {
            add(words + label(dice.below(labels)));
        }
    }

    private void add(String... parts) {
        for (String part : parts) {
            text.append(part).append(gap());
        }
        text.append(";").append(gap());
    }

    private String gap() {
        return dice.isOneOf(9) ? " " : dice.isOneOf(30) ? "\n " : "";
    }

    private String op() {
        return String.valueOf(ops.charAt(dice.below(ops.length())));
    }

    private String value() {
        if (dice.below(3) > 0) {
            return variable();
        }
        String sign = dice.isOneOf(4) ? "-" : "";
        return sign + (dice.isOneOf(8) ? dice.below(1000000) : dice.below(4));
    }

    private String variable() {
        return String.valueOf((char) ('a' + dice.below(variables)));
    }

    /** Some labels bear names of variables. */
    private String label(int number) {
        return number % 3 == 0 ? String.valueOf((char) ('a' + number)) : "l" + number;
    }
}
