import java.util.ArrayList;
import java.util.List;
import java.util.function.IntPredicate;

/**
 * The document once more, as literally and as slowly as it can be said, with the Java library.
 * RandomTest compares PassForge with it, so it shares no code and no way of reckoning with the class:
 * ways are searched one by one, variables and labels are held by their names.
 */
final class Oracle {
    private static final String OPS = "+-*/%&|^<=";

    /** A value: a variable's name, or a number. */
    private record Value(String name, long number) {
        boolean isName(String other) {
            return name != null && name.equals(other);
        }
    }

    /** An instruction; what it has not is null. */
    private record Line(char sort, String x, String label, char op, Value v, Value w) {
        boolean isJump() {
            return sort == 'g' || sort == 'i';
        }

        boolean isReckoned() {
            return sort == '1' || sort == '2';
        }

        boolean endsBlock() {
            return isJump() || sort == 'h';
        }

        boolean assigns(String name) {
            return x != null && x.equals(name);
        }

        boolean reads(String name) {
            return v != null && v.isName(name) || w != null && w.isName(name);
        }
    }

    private static final class Code {
        final List<Line> lines = new ArrayList<>();
        List<String> variables = new ArrayList<>();
        List<String> labels = new ArrayList<>();

        Code copy() {
            Code other = new Code();
            other.lines.addAll(lines);
            other.variables = variables;
            other.labels = labels;
            return other;
        }
    }

    private static final class Result {
        final List<Long> outs = new ArrayList<>();
        final long[] values = new long[12];
        int reads;
        int steps;
        boolean isStopped;
    }

    private final StringBuilder tape = new StringBuilder();
    private final List<Code> codes = new ArrayList<>();
    private final List<Long> input = new ArrayList<>();
    private int errorAt = -1;
    private Result latest = new Result();

    // ---- the face

    int feed(int a, int b, int c, int d, int e) {
        if (tape.length() + 20 > 1600) {
            throw new IllegalStateException();
        }
        for (int four : new int[] {a, b, c, d, e}) {
            for (int i = 3; i >= 0; i--) {
                tape.append((char) ((four >> 8 * i) & 0xff));
            }
        }
        return tape.length();
    }

    int trim(int n) {
        if (n < 0 || n > tape.length()) {
            throw new IllegalArgumentException();
        }
        tape.setLength(n);
        return n;
    }

    int compile() {
        needRoom();
        Compiler compiler = new Compiler(tape.toString());
        compiler.compile();
        tape.setLength(0);
        errorAt = compiler.errorAt;
        if (compiler.error == 0) {
            codes.add(compiler.code);
        }
        return compiler.error;
    }

    int errorAt() {
        return errorAt;
    }

    int programs() {
        return codes.size();
    }

    int count(int program, int what) {
        Code code = code(program);
        switch (what) {
            case 0: return code.lines.size();
            case 1: return code.variables.size();
            case 2: return code.labels.size();
            case 3: return blocks(code).size();
            case 4: return loops(code).size();
            case 5: return unreached(code);
            default: throw new IndexOutOfBoundsException();
        }
    }

    int code(int program, int instruction, int what) {
        Line line = line(program, instruction);
        Code code = codes.get(program);
        switch (what) {
            case 0: return "l12gi?oh".indexOf(line.sort == 'n' ? '?' : line.sort);
            case 1: return line.x != null ? code.variables.indexOf(line.x) : line.label != null ? code.labels.indexOf(line.label) : -1;
            case 2: return line.sort == '2' ? OPS.indexOf(line.op) : -1;
            case 3: return line.v == null || line.v.name == null ? -1 : code.variables.indexOf(line.v.name);
            case 4: return line.w == null || line.w.name == null ? -1 : code.variables.indexOf(line.w.name);
            default: throw new IndexOutOfBoundsException();
        }
    }

    long number(int program, int instruction, boolean isSecond) {
        Line line = line(program, instruction);
        Value value = isSecond ? line.w : line.v;
        return value == null || value.name != null ? 0 : value.number;
    }

    int live(int program, int instruction) {
        line(program, instruction);
        Code code = codes.get(program);
        int set = 0;
        for (int k = 0; k < code.variables.size(); k++) {
            if (isLiveBehind(code, instruction, code.variables.get(k))) {
                set += 1 << k;
            }
        }
        return set;
    }

    int pass(int program, int pass) {
        Code old = code(program);
        if (pass < 0 || pass > 4) {
            throw new IllegalArgumentException();
        }
        needRoom();
        Code fresh = old.copy();
        int changes = change(fresh, pass);
        codes.add(fresh);
        return changes;
    }

    int better(int program) {
        Code fresh = code(program).copy();
        needRoom();
        int sum = 0;
        for (int round = 1; round <= 8; round++) {
            int changes = 0;
            for (int pass = 0; pass < 5; pass++) {
                changes += change(fresh, pass);
            }
            sum += changes;
            if (changes == 0) {
                break;
            }
        }
        codes.add(fresh);
        return sum;
    }

    int put(long value) {
        if (input.size() == 30) {
            throw new IllegalStateException();
        }
        input.add(value);
        return input.size();
    }

    int empty() {
        int had = input.size();
        input.clear();
        return had;
    }

    int run(int program, int most) {
        Code code = code(program);
        if (most < 1 || most > 5000) {
            throw new IllegalArgumentException();
        }
        latest = run(code, input, most);
        return latest.steps;
    }

    int ran(int what) {
        switch (what) {
            case 0: return latest.isStopped ? 1 : 0;
            case 1: return latest.outs.size();
            case 2: return latest.reads;
            default: throw new IndexOutOfBoundsException();
        }
    }

    long output(int index) {
        if (index < 0 || index >= latest.outs.size() || index >= 60) {
            throw new IndexOutOfBoundsException();
        }
        return latest.outs.get(index);
    }

    long variable(int variable) {
        if (variable < 0 || variable > 11) {
            throw new IndexOutOfBoundsException();
        }
        return latest.values[variable];
    }

    int differ(int a, int b, int n, int v) {
        Code first = code(a);
        Code second = code(b);
        List<List<Long>> inputs = inputs(n, v);
        for (int i = 0; i < inputs.size(); i++) {
            Result one = run(first, inputs.get(i), 500);
            Result other = run(second, inputs.get(i), 500);
            if (one.isStopped != other.isStopped) {
                return i;
            }
            boolean isSameCount = one.outs.size() == other.outs.size();
            if (one.isStopped && !(isSameCount && kept(one).equals(kept(other)))) {
                return i;
            }
        }
        return -1;
    }

    double share(int a, int b, int n, int v) {
        Code first = code(a);
        Code second = code(b);
        double one = 0;
        double other = 0;
        for (List<Long> numbers : inputs(n, v)) {
            one += run(first, numbers, 500).steps;
            other += run(second, numbers, 500).steps;
        }
        return one == 0 ? 1 : other / one;
    }

    long digest() {
        List<Long> row = new ArrayList<>();
        row.add((long) codes.size());
        for (int p = 0; p < codes.size(); p++) {
            for (int what = 0; what < 6; what++) {
                row.add((long) count(p, what));
            }
            for (int i = 0; i < codes.get(p).lines.size(); i++) {
                for (int what = 0; what < 5; what++) {
                    row.add((long) code(p, i, what));
                }
                row.add(number(p, i, false));
                row.add(number(p, i, true));
                row.add((long) live(p, i));
            }
        }
        row.add((long) tape.length());
        row.add((long) input.size());
        row.addAll(input);
        for (int what = 0; what < 3; what++) {
            row.add((long) ran(what));
        }
        row.addAll(kept(latest));
        for (int i = 0; i < 12; i++) {
            row.add(variable(i));
        }
        long d = 401;
        for (long x : row) {
            d = d * 31 + x;
        }
        return d;
    }

    // ---- helps of the face

    private void needRoom() {
        if (codes.size() >= 12) {
            throw new IllegalStateException();
        }
    }

    private Code code(int program) {
        if (program < 0 || program >= codes.size()) {
            throw new IndexOutOfBoundsException();
        }
        return codes.get(program);
    }

    private Line line(int program, int instruction) {
        Code code = code(program);
        if (instruction < 0 || instruction >= code.lines.size()) {
            throw new IndexOutOfBoundsException();
        }
        return code.lines.get(instruction);
    }

    private static List<Long> kept(Result result) {
        return result.outs.subList(0, Math.min(60, result.outs.size()));
    }

    private static List<List<Long>> inputs(int n, int v) {
        if (n < 0 || n > 4 || v < 1 || v > 5 || Math.pow(v, n) > 64) {
            throw new IllegalArgumentException();
        }
        List<List<Long>> all = new ArrayList<>();
        all.add(new ArrayList<>());
        for (int i = 0; i < n; i++) {
            List<List<Long>> longer = new ArrayList<>();
            for (List<Long> start : all) {
                for (long digit = 0; digit < v; digit++) {
                    List<Long> one = new ArrayList<>(start);
                    one.add(digit);
                    longer.add(one);
                }
            }
            all = longer;
        }
        return all;
    }

    // ---- 1. The language

    private record Token(String text, char sort, int at) {
    }

    private static final class Compiler {
        private final String text;
        private final List<Token> tokens = new ArrayList<>();
        private int next;
        final Code code = new Code();
        int error;
        int errorAt = -1;

        Compiler(String text) {
            this.text = text;
        }

        private static final class Wrong extends Exception {
            final int error;
            final int at;

            Wrong(int error, int at) {
                this.error = error;
                this.at = at;
            }
        }

        void compile() {
            cut();
            try {
                do {
                    readLine();
                } while (peek().sort != 'e');
                checkLabels();
            } catch (Wrong wrong) {
                error = wrong.error;
                errorAt = wrong.at;
            }
        }

        private void cut() {
            java.util.regex.Matcher matcher = java.util.regex.Pattern
                    .compile("[a-z][a-z0-9]*|[0-9]+|[ \n]+|(?s:.)").matcher(text);
            while (matcher.find()) {
                String token = matcher.group();
                if (token.matches("[ \n]+")) {
                    continue;
                }
                char sort = '?';
                if (token.matches("goto|if|in|out|halt")) {
                    sort = 'k';
                } else if (token.matches("[a-z][a-z0-9]{0,5}")) {
                    sort = 'n';
                } else if (token.matches("[0-9]{1,6}")) {
                    sort = '0';
                } else if (token.length() == 1 && ";:=+-*/%&|^<".contains(token)) {
                    sort = token.charAt(0);
                }
                tokens.add(new Token(token, sort, matcher.start()));
            }
            tokens.add(new Token("", 'e', text.length()));
        }

        private Token peek() {
            return tokens.get(next);
        }

        private Token take(char sort) throws Wrong {
            if (peek().sort != sort) {
                throw new Wrong(1, peek().at);
            }
            return tokens.get(next++);
        }

        private void takeWord(String word) throws Wrong {
            if (!peek().text.equals(word)) {
                throw new Wrong(1, peek().at);
            }
            next++;
        }

        private String note(Token token, List<String> names) throws Wrong {
            if (!names.contains(token.text)) {
                if (names.size() == 12) {
                    throw new Wrong(2, token.at);
                }
                names.add(token.text);
            }
            return token.text;
        }

        private Value value() throws Wrong {
            if (peek().sort == 'n') {
                return new Value(note(take('n'), code.variables), 0);
            }
            String sign = "";
            if (peek().sort == '-') {
                sign = take('-').text;
            }
            return new Value(null, Long.parseLong(sign + take('0').text));
        }

        private void readLine() throws Wrong {
            Token first = peek();
            if (first.sort != 'k' && first.sort != 'n') {
                throw new Wrong(1, first.at);
            }
            if (code.lines.size() == 80) {
                throw new Wrong(2, first.at);
            }
            next++;
            if (first.sort == 'n') {
                if (peek().sort == ':') {
                    for (Line line : code.lines) {
                        if (line.sort == 'l' && line.label.equals(first.text)) {
                            throw new Wrong(2, first.at);
                        }
                    }
                    code.lines.add(new Line('l', null, note(first, code.labels), ' ', null, null));
                    next++;
                    return;
                }
                take('=');
                assignment(note(first, code.variables));
            } else if (first.text.equals("goto")) {
                code.lines.add(new Line('g', null, note(take('n'), code.labels), ' ', null, null));
            } else if (first.text.equals("if")) {
                Value v = value();
                takeWord("goto");
                code.lines.add(new Line('i', null, note(take('n'), code.labels), ' ', v, null));
            } else if (first.text.equals("in")) {
                code.lines.add(new Line('n', note(take('n'), code.variables), null, ' ', null, null));
            } else if (first.text.equals("out")) {
                code.lines.add(new Line('o', null, null, ' ', value(), null));
            } else {
                code.lines.add(new Line('h', null, null, ' ', null, null));
            }
            take(';');
        }

        private void assignment(String x) throws Wrong {
            Value v = value();
            if (OPS.indexOf(peek().sort) < 0) {
                code.lines.add(new Line('1', x, null, ' ', v, null));
                return;
            }
            char op = tokens.get(next++).sort;
            code.lines.add(new Line('2', x, null, op, v, value()));
        }

        private void checkLabels() throws Wrong {
            for (int i = 0; i + 1 < tokens.size(); i++) {
                if (tokens.get(i).text.equals("goto")) {
                    Token label = tokens.get(i + 1);
                    boolean isThere = code.lines.stream().anyMatch(x -> x.sort == 'l' && x.label.equals(label.text));
                    if (!isThere) {
                        throw new Wrong(3, label.at);
                    }
                }
            }
        }
    }

    private static long reckon(char op, long v, long w) {
        switch (op) {
            case '+': return v + w;
            case '-': return v - w;
            case '*': return v * w;
            case '/': return w == 0 ? 0 : w == -1 ? -v : v / w;
            case '%': return w == 0 || w == -1 ? 0 : v % w;
            case '&': return v & w;
            case '|': return v | w;
            case '^': return v ^ w;
            case '<': return v < w ? 1 : 0;
            case '=': return v == w ? 1 : 0;
            default: throw new AssertionError(op);
        }
    }

    private static Result run(Code code, List<Long> numbers, int most) {
        Result result = new Result();
        int at = 0;
        while (true) {
            while (at < code.lines.size() && code.lines.get(at).sort == 'l') {
                at++;
            }
            if (at >= code.lines.size()) {
                result.isStopped = true;
                return result;
            }
            if (result.steps == most) {
                return result;
            }
            result.steps++;
            at = step(code, at, numbers, result);
        }
    }

    private static int step(Code code, int at, List<Long> numbers, Result result) {
        Line line = code.lines.get(at);
        switch (line.sort) {
            case '1':
                result.values[code.variables.indexOf(line.x)] = of(code, line.v, result);
                return at + 1;
            case '2':
                result.values[code.variables.indexOf(line.x)] = reckon(line.op, of(code, line.v, result), of(code, line.w, result));
                return at + 1;
            case 'n':
                result.values[code.variables.indexOf(line.x)] = result.reads < numbers.size() ? numbers.get(result.reads) : 0;
                result.reads++;
                return at + 1;
            case 'o':
                result.outs.add(of(code, line.v, result));
                return at + 1;
            case 'h':
                return code.lines.size();
            case 'g':
                return placeOf(code, line.label);
            case 'i':
                return of(code, line.v, result) == 0 ? at + 1 : placeOf(code, line.label);
            default:
                throw new AssertionError(line);
        }
    }

    private static long of(Code code, Value value, Result result) {
        return value.name == null ? value.number : result.values[code.variables.indexOf(value.name)];
    }

    private static int placeOf(Code code, String label) {
        for (int i = 0; i < code.lines.size(); i++) {
            if (code.lines.get(i).sort == 'l' && code.lines.get(i).label.equals(label)) {
                return i;
            }
        }
        throw new AssertionError(label);
    }

    // ---- 2. Passes: blocks, loops, ways

    /** The blocks, each as its first and its last place. */
    private static List<int[]> blocks(Code code) {
        List<int[]> all = new ArrayList<>();
        int from = 0;
        while (from < code.lines.size()) {
            int to = from;
            while (to + 1 < code.lines.size() && !code.lines.get(to).endsBlock() && code.lines.get(to + 1).sort != 'l') {
                to++;
            }
            all.add(new int[] {from, to});
            from = to + 1;
        }
        return all;
    }

    private static List<int[]> loops(Code code) {
        List<int[]> all = new ArrayList<>();
        for (int i = 0; i < code.lines.size(); i++) {
            for (int j = i + 1; j < code.lines.size(); j++) {
                if (isLoop(code, i, j)) {
                    all.add(new int[] {i, j});
                }
            }
        }
        return all;
    }

    private static boolean isLoop(Code code, int i, int j) {
        Line label = code.lines.get(i);
        Line jump = code.lines.get(j);
        if (label.sort != 'l' || !jump.isJump() || !jump.label.equals(label.label)) {
            return false;
        }
        for (int k = 0; k < code.lines.size(); k++) {
            Line other = code.lines.get(k);
            if (!other.isJump()) {
                continue;
            }
            if (k != j && other.label.equals(label.label)) {
                return false;
            }
            int to = placeOf(code, other.label);
            if ((k < i || k > j) && to >= i + 1 && to <= j) {
                return false;
            }
        }
        return true;
    }

    /** The places that can follow directly. */
    private static List<Integer> following(Code code, int at) {
        Line line = code.lines.get(at);
        List<Integer> all = new ArrayList<>();
        if (line.isJump()) {
            all.add(placeOf(code, line.label));
        }
        if (line.sort != 'g' && line.sort != 'h' && at + 1 < code.lines.size()) {
            all.add(at + 1);
        }
        return all;
    }

    /** All places on ways that begin at the given ones, and go on behind the places where it is allowed. */
    private static List<Integer> reached(Code code, List<Integer> starts, IntPredicate goesOn) {
        List<Integer> all = new ArrayList<>();
        for (int start : starts) {
            if (!all.contains(start)) {
                all.add(start);
            }
        }
        for (int i = 0; i < all.size(); i++) {
            if (goesOn.test(all.get(i))) {
                for (int place : following(code, all.get(i))) {
                    if (!all.contains(place)) {
                        all.add(place);
                    }
                }
            }
        }
        return all;
    }

    private static boolean isLiveBehind(Code code, int at, String x) {
        List<Integer> places = reached(code, following(code, at), i -> !code.lines.get(i).assigns(x));
        return places.stream().anyMatch(i -> code.lines.get(i).reads(x));
    }

    private static boolean isLiveAhead(Code code, int at, String x) {
        Line line = code.lines.get(at);
        return line.reads(x) || !line.assigns(x) && isLiveBehind(code, at, x);
    }

    private static boolean isReached(Code code, int at) {
        return reached(code, List.of(0), i -> true).contains(at);
    }

    private static int unreached(Code code) {
        int count = 0;
        for (int i = 0; i < code.lines.size(); i++) {
            count += isReached(code, i) ? 0 : 1;
        }
        return count;
    }

    // ---- 2. Passes: the five

    private static int change(Code code, int pass) {
        switch (pass) {
            case 0: return fold(code);
            case 1: return copy(code);
            case 2: return value(code);
            case 3: return drop(code);
            default: return move(code);
        }
    }

    private static int fold(Code code) {
        List<Line> fresh = new ArrayList<>();
        int changes = 0;
        for (int[] block : blocks(code)) {
            java.util.Map<String, Long> known = new java.util.HashMap<>();
            for (int i = block[0]; i <= block[1]; i++) {
                Line line = code.lines.get(i);
                Value v = line.v;
                Value w = line.w;
                if (v != null && v.name != null && known.containsKey(v.name)) {
                    v = new Value(null, known.get(v.name));
                    changes++;
                }
                if (w != null && w.name != null && known.containsKey(w.name)) {
                    w = new Value(null, known.get(w.name));
                    changes++;
                }
                line = new Line(line.sort, line.x, line.label, line.op, v, w);
                if (line.sort == '2' && v.name == null && w.name == null) {
                    line = new Line('1', line.x, null, ' ', new Value(null, reckon(line.op, v.number, w.number)), null);
                    changes++;
                }
                if (line.sort == 'i' && v.name == null) {
                    changes++;
                    if (v.number == 0) {
                        continue;
                    }
                    line = new Line('g', null, line.label, ' ', null, null);
                }
                if (line.x != null) {
                    known.remove(line.x);
                    if (line.sort == '1' && line.v.name == null) {
                        known.put(line.x, line.v.number);
                    }
                }
                fresh.add(line);
            }
        }
        code.lines.clear();
        code.lines.addAll(fresh);
        return changes;
    }

    private static int copy(Code code) {
        List<Line> fresh = new ArrayList<>();
        int changes = 0;
        for (int[] block : blocks(code)) {
            java.util.Map<String, String> copies = new java.util.HashMap<>();
            for (int i = block[0]; i <= block[1]; i++) {
                Line line = code.lines.get(i);
                Value v = line.v;
                Value w = line.w;
                if (v != null && copies.containsKey(v.name)) {
                    v = new Value(copies.get(v.name), 0);
                    changes++;
                }
                if (w != null && copies.containsKey(w.name)) {
                    w = new Value(copies.get(w.name), 0);
                    changes++;
                }
                if (line.sort == '1' && v.isName(line.x)) {
                    changes++;
                    continue;
                }
                line = new Line(line.sort, line.x, line.label, line.op, v, w);
                fresh.add(line);
                if (line.x != null) {
                    String x = line.x;
                    copies.remove(x);
                    copies.values().removeIf(y -> y.equals(x));
                    if (line.sort == '1' && v.name != null) {
                        copies.put(x, v.name);
                    }
                }
            }
        }
        code.lines.clear();
        code.lines.addAll(fresh);
        return changes;
    }

    private static int value(Code code) {
        int changes = 0;
        for (int[] block : blocks(code)) {
            for (int i = block[0]; i <= block[1]; i++) {
                for (int k = block[0]; k < i; k++) {
                    if (isSameValue(code, k, i)) {
                        Line line = code.lines.get(i);
                        code.lines.set(i, new Line('1', line.x, null, ' ', new Value(code.lines.get(k).x, 0), null));
                        changes++;
                        break;
                    }
                }
            }
        }
        return changes;
    }

    private static boolean isSameValue(Code code, int k, int i) {
        Line one = code.lines.get(k);
        Line other = code.lines.get(i);
        if (one.sort != '2' || other.sort != '2' || one.op != other.op) {
            return false;
        }
        boolean isSame = one.v.equals(other.v) && one.w.equals(other.w);
        boolean isTurned = "+*&|^=".indexOf(one.op) >= 0 && one.v.equals(other.w) && one.w.equals(other.v);
        if (!isSame && !isTurned || one.reads(one.x)) {
            return false;
        }
        for (int between = k + 1; between < i; between++) {
            String assigned = code.lines.get(between).x;
            if (assigned != null && (assigned.equals(one.x) || one.reads(assigned))) {
                return false;
            }
        }
        return true;
    }

    private static int drop(Code code) {
        int changes = 0;
        for (int i = 0; i < code.lines.size(); i++) {
            if (isDropped(code, i)) {
                code.lines.remove(i);
                changes++;
                i = -1;
            }
        }
        return changes;
    }

    private static boolean isDropped(Code code, int i) {
        Line line = code.lines.get(i);
        if (line.sort != 'l' && !isReached(code, i)) {
            return true;
        }
        if (line.isReckoned() && !isLiveBehind(code, i, line.x)) {
            return true;
        }
        if (line.sort == 'g') {
            for (int k = i + 1; k < code.lines.size() && code.lines.get(k).sort == 'l'; k++) {
                if (code.lines.get(k).label.equals(line.label)) {
                    return true;
                }
            }
        }
        return line.sort == 'l' && code.lines.stream().noneMatch(x -> x.isJump() && x.label.equals(line.label));
    }

    private static int move(Code code) {
        int changes = 0;
        while (moveOne(code)) {
            changes++;
        }
        return changes;
    }

    private static boolean moveOne(Code code) {
        for (int[] loop : loops(code)) {
            for (int k = loop[0] + 1; k < loop[1]; k++) {
                if (isMovable(code, loop[0], loop[1], k)) {
                    code.lines.add(loop[0], code.lines.remove(k));
                    return true;
                }
            }
        }
        return false;
    }

    private static boolean isMovable(Code code, int i, int j, int k) {
        Line line = code.lines.get(k);
        if (!line.isReckoned() || line.reads(line.x) || isLiveBehind(code, i, line.x)) {
            return false;
        }
        for (int at = i; at <= j; at++) {
            String assigned = code.lines.get(at).x;
            if (assigned != null && line.reads(assigned) || at != k && line.x.equals(assigned)) {
                return false;
            }
            for (int next : following(code, at)) {
                if ((next < i || next > j) && isLiveAhead(code, next, line.x)) {
                    return false;
                }
            }
        }
        return true;
    }
}
