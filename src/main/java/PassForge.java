/** A workshop for programs in a small intermediate language. */
public final class PassForge {

    private static final int MOST_PROGRAMS = 12;
    private static final int MOST_INSTRUCTIONS = 80;
    private static final int MOST_NAMES = 12;
    private static final int MOST_INPUTS = 30;
    private static final int MOST_STEPS = 5000;
    private static final int MOST_PASSES = 5;
    private static final int MOST_ROUNDS = 8;

    /** The limits of differ() and share(). */
    private static final int COMPARED_STEPS = 500;
    private static final int COMPARED_NUMBERS = 4;
    private static final int COMPARED_VALUES = 5;
    private static final int COMPARED_INPUTS = 64;

    /** Far more turns than any loop that counts up to it can need. */
    private static final int FAR = 1000000;

    private final Program[] row;
    private int made;
    private final Tape tape;
    private final Reader reader;
    private final Flow flow;
    private final BlockPasses blockPasses;
    private final FlowPasses flowPasses;
    private final long[] input;
    private int inputSize;
    private final Machine latest;
    private final Machine left;
    private final Machine right;
    private final long[] digits;

    public PassForge() {
        row = new Program[MOST_PROGRAMS];
        for (int i = 0; i < row.length; i++) {
            row[i] = new Program();
        }
        tape = new Tape();
        reader = new Reader();
        flow = new Flow();
        blockPasses = new BlockPasses();
        flowPasses = new FlowPasses();
        input = new long[MOST_INPUTS];
        latest = new Machine();
        left = new Machine();
        right = new Machine();
        digits = new long[COMPARED_NUMBERS];
    }

    // ---- programs

    public int feed(int a, int b, int c, int d, int e) throws IllegalStateException {
        if (tape.room() < 20) {
            throw new IllegalStateException("the tape is full");
        }
        tape.addFour(a);
        tape.addFour(b);
        tape.addFour(c);
        tape.addFour(d);
        tape.addFour(e);
        return tape.size();
    }

    public int trim(int n) throws IllegalArgumentException {
        if (n < 0 || n > tape.size()) {
            throw new IllegalArgumentException("the tape has not so many bytes");
        }
        tape.shorten(n);
        return n;
    }

    public int compile() throws IllegalStateException {
        Program fresh = freshProgram();
        int error = reader.read(tape, fresh);
        tape.shorten(0);
        if (error == 0) {
            accept(fresh);
        }
        return error;
    }

    public int errorAt() {
        return reader.faultPlace();
    }

    public int programs() {
        return made;
    }

    public int count(int program, int what) throws IndexOutOfBoundsException {
        Program p = programAt(program);
        if (what < 0 || what > 5) {
            throw new IndexOutOfBoundsException("what is not 0 to 5");
        }
        return p.tally(what);
    }

    public int code(int program, int instruction, int what) throws IndexOutOfBoundsException {
        Program p = programWith(program, instruction);
        if (what < 0 || what > 4) {
            throw new IndexOutOfBoundsException("what is not 0 to 4");
        }
        return p.part(instruction, what);
    }

    public long number(int program, int instruction, boolean isSecond) throws IndexOutOfBoundsException {
        Program p = programWith(program, instruction);
        return isSecond ? p.secondNumberAt(instruction) : p.firstNumberAt(instruction);
    }

    public int live(int program, int instruction) throws IndexOutOfBoundsException {
        return programWith(program, instruction).liveAt(instruction);
    }

    // ---- passes

    public int pass(int program, int pass) throws IndexOutOfBoundsException, IllegalArgumentException, IllegalStateException {
        Program old = programAt(program);
        if (pass < 0 || pass >= MOST_PASSES) {
            throw new IllegalArgumentException("pass is not 0 to 4");
        }
        Program fresh = freshProgram();
        fresh.become(old);
        int changes = changeBy(fresh, pass);
        accept(fresh);
        return changes;
    }

    public int better(int program) throws IndexOutOfBoundsException, IllegalStateException {
        Program old = programAt(program);
        Program fresh = freshProgram();
        fresh.become(old);
        int changes = 0;
        boolean isChanged = true;
        for (int round = 0; isChanged && round < MOST_ROUNDS; round++) {
            int before = changes;
            for (int pass = 0; pass < MOST_PASSES; pass++) {
                changes += changeBy(fresh, pass);
            }
            isChanged = changes != before;
        }
        accept(fresh);
        return changes;
    }

    // ---- runs

    public int put(long value) throws IllegalStateException {
        if (inputSize < 0 || inputSize >= input.length) {
            throw new IllegalStateException("the input is full");
        }
        input[inputSize] = value;
        inputSize++;
        return inputSize;
    }

    public int empty() {
        int had = inputSize;
        inputSize = 0;
        return had;
    }

    public int run(int program, int most) throws IndexOutOfBoundsException, IllegalArgumentException {
        Program p = programAt(program);
        if (most < 1 || most > MOST_STEPS) {
            throw new IllegalArgumentException("most is not 1 to 5000");
        }
        latest.execute(p, input, inputSize, most);
        return latest.steps();
    }

    public int ran(int what) throws IndexOutOfBoundsException {
        if (what < 0 || what > 2) {
            throw new IndexOutOfBoundsException("what is not 0 to 2");
        }
        return latest.report(what);
    }

    public long output(int index) throws IndexOutOfBoundsException {
        if (index < 0 || index >= latest.kept()) {
            throw new IndexOutOfBoundsException("no such number is kept");
        }
        return latest.keptAt(index);
    }

    public long variable(int variable) throws IndexOutOfBoundsException {
        if (variable < 0 || variable >= MOST_NAMES) {
            throw new IndexOutOfBoundsException("variable is not 0 to 11");
        }
        return latest.valueOf(variable);
    }

    public int differ(int a, int b, int n, int v) throws IndexOutOfBoundsException, IllegalArgumentException {
        Program first = programAt(a);
        Program second = programAt(b);
        int inputs = inputsOf(n, v);
        clearDigits();
        for (int i = 0; i < inputs; i++) {
            left.execute(first, digits, n, COMPARED_STEPS);
            right.execute(second, digits, n, COMPARED_STEPS);
            if (left.isUnlike(right)) {
                return i;
            }
            countUpDigits(n, v);
        }
        return -1;
    }

    public double share(int a, int b, int n, int v) throws IndexOutOfBoundsException, IllegalArgumentException {
        Program first = programAt(a);
        Program second = programAt(b);
        int inputs = inputsOf(n, v);
        clearDigits();
        int firstSteps = 0;
        int secondSteps = 0;
        for (int i = 0; i < inputs; i++) {
            left.execute(first, digits, n, COMPARED_STEPS);
            right.execute(second, digits, n, COMPARED_STEPS);
            firstSteps += left.steps();
            secondSteps += right.steps();
            countUpDigits(n, v);
        }
        return firstSteps == 0 ? 1.0 : (double) secondSteps / (double) firstSteps;
    }

    public long digest() {
        long d = mix(401, made);
        for (int i = 0; i < made && i < row.length; i++) {
            d = mixProgram(d, row[i]);
        }
        d = mix(d, tape.size());
        d = mix(d, inputSize);
        for (int i = 0; i < inputSize && i < input.length; i++) {
            d = mix(d, input[i]);
        }
        for (int what = 0; what <= 2; what++) {
            d = mix(d, latest.report(what));
        }
        for (int i = 0; i < latest.kept(); i++) {
            d = mix(d, latest.keptAt(i));
        }
        for (int i = 0; i < MOST_NAMES; i++) {
            d = mix(d, latest.valueOf(i));
        }
        return d;
    }

    private static long mix(long d, long x) {
        return d * 31 + x;
    }

    private static long mixProgram(long before, Program p) {
        long d = before;
        for (int what = 0; what <= 5; what++) {
            d = mix(d, p.tally(what));
        }
        for (int i = 0; i < p.size(); i++) {
            for (int what = 0; what <= 4; what++) {
                d = mix(d, p.part(i, what));
            }
            d = mix(d, p.firstNumberAt(i));
            d = mix(d, p.secondNumberAt(i));
            d = mix(d, p.liveAt(i));
        }
        return d;
    }

    private Program programAt(int index) {
        if (index < 0 || index >= made || index >= row.length) {
            throw new IndexOutOfBoundsException("no such program");
        }
        return row[index];
    }

    private Program programWith(int index, int instruction) {
        Program p = programAt(index);
        if (!p.has(instruction)) {
            throw new IndexOutOfBoundsException("no such instruction");
        }
        return p;
    }

    /** The place of the next program; it counts as made only when it is accepted. */
    private Program freshProgram() {
        if (made < 0 || made >= row.length) {
            throw new IllegalStateException("there are 12 programs");
        }
        return row[made];
    }

    private void accept(Program fresh) {
        flow.measure(fresh);
        made++;
    }

    private int changeBy(Program p, int pass) {
        switch (pass) {
            case 0:
                return blockPasses.fold(p);
            case 1:
                return blockPasses.lookThroughCopies(p);
            case 2:
                return blockPasses.takeValues(p);
            case 3:
                return flowPasses.drop(p);
            default:
                return flowPasses.move(p);
        }
    }

    /** How many inputs of n numbers 0 to v - 1 there are. */
    private static int inputsOf(int n, int v) {
        if (n < 0 || n > COMPARED_NUMBERS || v < 1 || v > COMPARED_VALUES) {
            throw new IllegalArgumentException("n is not 0 to 4, or v is not 1 to 5");
        }
        int inputs = 1;
        for (int i = 0; i < n; i++) {
            inputs *= v;
        }
        if (inputs > COMPARED_INPUTS) {
            throw new IllegalArgumentException("there are more than 64 inputs");
        }
        return inputs;
    }

    private void clearDigits() {
        for (int i = 0; i < digits.length; i++) {
            digits[i] = 0;
        }
    }

    private void countUpDigits(int n, int v) {
        for (int i = Math.min(n, digits.length) - 1; i >= 0; i--) {
            digits[i]++;
            if (digits[i] < v) {
                return;
            }
            digits[i] = 0;
        }
    }

    /**
     * A row of instructions. An operand is a variable, if its variable is not -1, otherwise a number;
     * an instruction without it has the variable -1 and the number 0.
     */
    private static final class Program {
        static final int LABEL = 0;
        static final int SET = 1;
        static final int RECKON = 2;
        static final int GOTO = 3;
        static final int IF = 4;
        static final int IN = 5;
        static final int OUT = 6;
        static final int HALT = 7;

        /** The place behind the last possible instruction, where one is laid down while others shift. */
        private static final int SPARE = MOST_INSTRUCTIONS;

        private final int[] sort;
        private final int[] target;
        private final int[] op;
        private final int[] firstVariable;
        private final int[] secondVariable;
        private final long[] firstNumber;
        private final long[] secondNumber;
        private final boolean[] isGone;
        private final int[] liveBehind;
        private final int[] place;
        private final int[] jumps;
        private final int[] jump;
        private int size;
        private int variables;
        private int labels;
        private int blocks;
        private int loops;
        private int unreached;

        Program() {
            sort = new int[SPARE + 1];
            target = new int[SPARE + 1];
            op = new int[SPARE + 1];
            firstVariable = new int[SPARE + 1];
            secondVariable = new int[SPARE + 1];
            firstNumber = new long[SPARE + 1];
            secondNumber = new long[SPARE + 1];
            isGone = new boolean[SPARE + 1];
            liveBehind = new int[SPARE + 1];
            place = new int[MOST_NAMES];
            jumps = new int[MOST_NAMES];
            jump = new int[SPARE + 1];
        }

        int size() {
            return size;
        }

        boolean has(int i) {
            return i >= 0 && i < size && i < MOST_INSTRUCTIONS;
        }

        int sortAt(int i) {
            return i >= 0 && i < size && i < sort.length ? sort[i] : -1;
        }

        int targetAt(int i) {
            return i >= 0 && i < size && i < target.length ? target[i] : -1;
        }

        int opAt(int i) {
            return i >= 0 && i < size && i < op.length ? op[i] : -1;
        }

        int firstVariableAt(int i) {
            return i >= 0 && i < size && i < firstVariable.length ? firstVariable[i] : -1;
        }

        int secondVariableAt(int i) {
            return i >= 0 && i < size && i < secondVariable.length ? secondVariable[i] : -1;
        }

        long firstNumberAt(int i) {
            return i >= 0 && i < size && i < firstNumber.length ? firstNumber[i] : 0;
        }

        long secondNumberAt(int i) {
            return i >= 0 && i < size && i < secondNumber.length ? secondNumber[i] : 0;
        }

        int liveAt(int i) {
            return i >= 0 && i < size && i < liveBehind.length ? liveBehind[i] : 0;
        }

        /** What code() tells. */
        int part(int i, int what) {
            switch (what) {
                case 0:
                    return sortAt(i);
                case 1:
                    return targetAt(i);
                case 2:
                    return opAt(i);
                case 3:
                    return firstVariableAt(i);
                default:
                    return secondVariableAt(i);
            }
        }

        /** What count() tells. */
        int tally(int what) {
            switch (what) {
                case 0:
                    return size;
                case 1:
                    return variables;
                case 2:
                    return labels;
                case 3:
                    return blocks;
                case 4:
                    return loops;
                default:
                    return unreached;
            }
        }

        void clear() {
            size = 0;
        }

        void become(Program other) {
            size = other.size;
            variables = other.variables;
            labels = other.labels;
            for (int i = 0; i < size && i < MOST_INSTRUCTIONS; i++) {
                layDown(i, other, i);
            }
        }

        /** Adds an instruction; its operands are set behind it. */
        void add(int itsSort, int itsTarget, int itsOp) {
            if (size < 0 || size >= MOST_INSTRUCTIONS) {
                return;
            }
            sort[size] = itsSort;
            target[size] = itsTarget;
            op[size] = itsOp;
            size++;
        }

        void setFirst(int i, int v, long value) {
            if (has(i)) {
                firstVariable[i] = v;
                firstNumber[i] = value;
            }
        }

        void setSecond(int i, int v, long value) {
            if (has(i)) {
                secondVariable[i] = v;
                secondNumber[i] = value;
            }
        }

        /** Makes x = v of an instruction that assigns x. */
        void setPlain(int i, int v, long value) {
            if (has(i)) {
                sort[i] = SET;
                op[i] = -1;
                setFirst(i, v, value);
                setSecond(i, -1, 0);
            }
        }

        /** Makes a goto of an if. */
        void setGoto(int i) {
            if (has(i)) {
                sort[i] = GOTO;
                setFirst(i, -1, 0);
            }
        }

        void setNames(int itsVariables, int itsLabels) {
            variables = itsVariables;
            labels = itsLabels;
        }

        void setMeasures(int itsBlocks, int itsLoops, int itsUnreached) {
            blocks = itsBlocks;
            loops = itsLoops;
            unreached = itsUnreached;
        }

        void setLive(int i, int set) {
            if (has(i)) {
                liveBehind[i] = set;
            }
        }

        private void layDown(int to, Program source, int from) {
            if (to < 0 || to > SPARE || from < 0 || from > SPARE) {
                return;
            }
            sort[to] = source.sort[from];
            target[to] = source.target[from];
            op[to] = source.op[from];
            firstVariable[to] = source.firstVariable[from];
            secondVariable[to] = source.secondVariable[from];
            firstNumber[to] = source.firstNumber[from];
            secondNumber[to] = source.secondNumber[from];
        }

        void removeAt(int at) {
            if (!has(at)) {
                return;
            }
            for (int i = at; i + 1 < size; i++) {
                layDown(i, this, i + 1);
            }
            size--;
        }

        /** Takes the instruction at from out, and puts it in just ahead of the one at to, which stands ahead of it. */
        void moveUp(int from, int to) {
            if (!has(from) || !has(to)) {
                return;
            }
            layDown(SPARE, this, from);
            for (int i = from; i > to; i--) {
                layDown(i, this, i - 1);
            }
            layDown(to, this, SPARE);
        }

        /** A marked instruction stays, so that the blocks stay, until removeMarked(). */
        void mark(int i) {
            if (has(i)) {
                isGone[i] = true;
            }
        }

        void removeMarked() {
            int to = 0;
            for (int i = 0; i < size && i < MOST_INSTRUCTIONS; i++) {
                if (isGone[i]) {
                    isGone[i] = false;
                } else {
                    layDown(to, this, i);
                    to++;
                }
            }
            size = to;
        }

        private static int setOf(int v) {
            return v < 0 || v >= MOST_NAMES ? 0 : 1 << v;
        }

        int readSet(int i) {
            return setOf(firstVariableAt(i)) | setOf(secondVariableAt(i));
        }

        /** The variable that it assigns, or -1. */
        int assigned(int i) {
            if (i < 0 || i >= size || i >= sort.length || i >= target.length) {
                return -1;
            }
            return sort[i] == SET || sort[i] == RECKON || sort[i] == IN ? target[i] : -1;
        }

        int assignedSet(int i) {
            return setOf(assigned(i));
        }

        boolean isLabel(int i) {
            return sortAt(i) == LABEL;
        }

        boolean isJump(int i) {
            int itsSort = sortAt(i);
            return itsSort == GOTO || itsSort == IF;
        }

        boolean startsBlock(int i) {
            return i == 0 || isLabel(i) || isJump(i - 1) || sortAt(i - 1) == HALT;
        }

        /** Has to be called when instructions were changed, ahead of the questions below. */
        void link() {
            for (int label = 0; label < MOST_NAMES; label++) {
                place[label] = size;
                jumps[label] = 0;
            }
            for (int i = 0; i < size; i++) {
                int label = targetAt(i);
                if (isLabel(i) && label >= 0 && label < MOST_NAMES) {
                    place[label] = i;
                }
            }
            for (int i = 0; i < size && i < jump.length; i++) {
                int label = isJump(i) ? targetAt(i) : -1;
                boolean isFound = label >= 0 && label < MOST_NAMES;
                jump[i] = isFound ? place[label] : size;
                if (isFound) {
                    jumps[label]++;
                }
            }
        }

        /** The place that follows directly by a jump, or size() if none does. */
        int jumpOf(int i) {
            return i >= 0 && i < size && i < jump.length ? jump[i] : size;
        }

        /** The place that follows directly by going on, or size() if none does. */
        int nextOf(int i) {
            int itsSort = sortAt(i);
            return itsSort == GOTO || itsSort == HALT ? size : i + 1;
        }

        /** How many gotos and ifs lead to a label. */
        int jumpsTo(int label) {
            return label >= 0 && label < jumps.length ? jumps[label] : 0;
        }

        /** The first place from i on that is no label. */
        int pastLabels(int i) {
            int at = i;
            while (at < size && sortAt(at) == LABEL) {
                at++;
            }
            return at;
        }

        /** The last place of the loop that begins at i, or -1 if none does. */
        int loopEnd(int i) {
            if (!isLabel(i) || jumpsTo(targetAt(i)) != 1) {
                return -1;
            }
            int end = -1;
            for (int j = i + 1; j < size; j++) {
                if (jumpOf(j) == i) {
                    end = j;
                }
            }
            return isEnteredBehind(i, end) ? -1 : end;
        }

        /** Whether a goto or if from elsewhere leads to a place behind i and up to end. */
        private boolean isEnteredBehind(int i, int end) {
            for (int j = 0; j < size; j++) {
                boolean isOutside = j < i || j > end;
                if (isOutside && jumpOf(j) > i && jumpOf(j) <= end) {
                    return true;
                }
            }
            return false;
        }
    }

    /** What op makes of two numbers. */
    private static long reckon(int op, long v, long w) {
        switch (op) {
            case 0:
                return v + w;
            case 1:
                return v - w;
            case 2:
                return v * w;
            case 3:
                return w == 0 ? 0 : v / w;
            case 4:
                return w == 0 ? 0 : v % w;
            case 5:
                return v & w;
            case 6:
                return v | w;
            case 7:
                return v ^ w;
            case 8:
                return v < w ? 1 : 0;
            default:
                return v == w ? 1 : 0;
        }
    }

    /** The bytes that feed() and trim() leave. */
    private static final class Tape {
        static final int MOST_BYTES = 1600;

        private final int[] bytes;
        private int size;

        Tape() {
            bytes = new int[MOST_BYTES];
        }

        int size() {
            return size;
        }

        int room() {
            return MOST_BYTES - size;
        }

        /** The byte at a position, or -1 behind the end. */
        int byteAt(int i) {
            return i >= 0 && i < size && i < bytes.length ? bytes[i] : -1;
        }

        void shorten(int n) {
            if (n >= 0 && n < size) {
                size = n;
            }
        }

        /** Adds the four bytes of a number, the highest one first. */
        void addFour(int four) {
            for (int shift = 24; shift >= 0; shift -= 8) {
                if (size >= 0 && size < bytes.length) {
                    bytes[size] = four >>> shift & 255;
                    size++;
                }
            }
        }
    }

    /** The tokens of a text, and which of them is being looked at. The last one is the end of the text. */
    private static final class Tokens {
        private static final int LONGEST = 6;

        /** Kinds of tokens; a symbol's kind is its byte, which is more than these. */
        static final int END = 0;
        static final int BAD = 1;
        static final int NUMBER = 2;
        static final int NAME = 3;
        static final int GOTO = 4;
        static final int IF = 5;
        static final int IN = 6;
        static final int OUT = 7;
        static final int HALT = 8;

        /** The keywords as words are held: their bytes as one number. */
        private static final long WORD_GOTO = 'g' << 24 | 'o' << 16 | 't' << 8 | 'o';
        private static final long WORD_IF = 'i' << 8 | 'f';
        private static final long WORD_IN = 'i' << 8 | 'n';
        private static final long WORD_OUT = 'o' << 16 | 'u' << 8 | 't';
        private static final long WORD_HALT = 'h' << 24 | 'a' << 16 | 'l' << 8 | 't';

        private final int[] kinds;
        private final int[] starts;
        private final long[] contents;
        private int size;
        private int current;

        Tokens() {
            kinds = new int[Tape.MOST_BYTES + 1];
            starts = new int[Tape.MOST_BYTES + 1];
            contents = new long[Tape.MOST_BYTES + 1];
        }

        int kind() {
            return current >= 0 && current < size && current < kinds.length ? kinds[current] : END;
        }

        /** The position of the token on the tape. */
        int start() {
            return current >= 0 && current < size && current < starts.length ? starts[current] : 0;
        }

        /** A number's amount, or a word's bytes as one number: words are the same if these numbers are. */
        long content() {
            return current >= 0 && current < size && current < contents.length ? contents[current] : 0;
        }

        void toNext() {
            if (current < size - 1) {
                current++;
            }
        }

        /** Takes the tokens of a tape, and looks at the first one. */
        void cut(Tape tape) {
            size = 0;
            current = 0;
            int at = 0;
            while (at < tape.size()) {
                at += Math.max(1, cutOne(tape, at));
            }
            add(END, tape.size(), 0);
        }

        /** Adds the token that begins at a position, if one does; answers how many bytes were read. */
        private int cutOne(Tape tape, int at) {
            int b = tape.byteAt(at);
            if (isLetter(b)) {
                return cutWord(tape, at);
            }
            if (isDigit(b)) {
                return cutNumber(tape, at);
            }
            if (b != ' ' && b != '\n') {
                add(isSymbol(b) ? b : BAD, at, 0);
            }
            return 1;
        }

        private void add(int kind, int start, long content) {
            if (size >= 0 && size < kinds.length && size < starts.length && size < contents.length) {
                kinds[size] = kind;
                starts[size] = start;
                contents[size] = content;
                size++;
            }
        }

        /** Adds the word that begins at start; answers its length. */
        private int cutWord(Tape tape, int start) {
            long word = 0;
            int at = start;
            while (at < tape.size() && (isLetter(tape.byteAt(at)) || isDigit(tape.byteAt(at)))) {
                word = word << 8 | tape.byteAt(at);
                at++;
            }
            add(at - start > LONGEST ? BAD : kindOfWord(word), start, word);
            return at - start;
        }

        /** Adds the number that begins at start; answers its length. */
        private int cutNumber(Tape tape, int start) {
            long amount = 0;
            int at = start;
            while (at < tape.size() && isDigit(tape.byteAt(at))) {
                amount = amount * 10 + (tape.byteAt(at) - '0');
                at++;
            }
            add(at - start > LONGEST ? BAD : NUMBER, start, amount);
            return at - start;
        }

        private static boolean isLetter(int b) {
            return b >= 'a' && b <= 'z';
        }

        private static boolean isDigit(int b) {
            return b >= '0' && b <= '9';
        }

        private static boolean isSymbol(int b) {
            return b == ';' || b == ':' || opOf(b) >= 0;
        }

        private static int kindOfWord(long word) {
            if (word == WORD_GOTO) {
                return GOTO;
            }
            if (word == WORD_IF) {
                return IF;
            }
            if (word == WORD_IN) {
                return IN;
            }
            if (word == WORD_OUT) {
                return OUT;
            }
            return word == WORD_HALT ? HALT : NAME;
        }

        /** The number of the op that a token of this kind is, or -1. */
        static int opOf(int kind) {
            switch (kind) {
                case '+':
                    return 0;
                case '-':
                    return 1;
                case '*':
                    return 2;
                case '/':
                    return 3;
                case '%':
                    return 4;
                case '&':
                    return 5;
                case '|':
                    return 6;
                case '^':
                    return 7;
                case '<':
                    return 8;
                case '=':
                    return 9;
                default:
                    return -1;
            }
        }
    }

    /** The variables or the labels of a text, numbered as they come. */
    private static final class Names {
        private final long[] words;
        private final int[] firstPlace;
        private final boolean[] isSet;
        private int size;

        Names() {
            words = new long[MOST_NAMES];
            firstPlace = new int[MOST_NAMES];
            isSet = new boolean[MOST_NAMES];
        }

        int size() {
            return size;
        }

        void clear() {
            size = 0;
        }

        /** The number of a name, which may be new; -1 if there are too many. */
        int find(long word, int at) {
            for (int i = 0; i < size && i < words.length; i++) {
                if (words[i] == word) {
                    return i;
                }
            }
            if (size < 0 || size >= words.length) {
                return -1;
            }
            words[size] = word;
            firstPlace[size] = at;
            isSet[size] = false;
            size++;
            return size - 1;
        }

        /** Notes that the label stands ahead of a colon; false if it did already, or is none. */
        boolean setOnce(int i) {
            if (i < 0 || i >= isSet.length || isSet[i]) {
                return false;
            }
            isSet[i] = true;
            return true;
        }

        /** The position of the first label that is not set, or -1; numbers are in the order of the positions. */
        int firstUnset() {
            for (int i = 0; i < size && i < isSet.length; i++) {
                if (!isSet[i]) {
                    return firstPlace[i];
                }
            }
            return -1;
        }
    }

    /** Makes a program of the tape. Its methods tell whether all is well so far; otherwise the fault is noted. */
    private static final class Reader {
        private static final int FORM = 1;
        private static final int LIMIT = 2;
        private static final int NO_LABEL = 3;

        private final Tokens tokens;
        private final Names variables;
        private final Names labels;
        private int fault;
        private int faultPlace;

        /** The instruction that is being read. */
        private int target;
        private int op;
        private int firstVariable;
        private long firstNumber;
        private int secondVariable;
        private long secondNumber;

        /** The value that was read last. */
        private int variable;
        private long amount;

        Reader() {
            tokens = new Tokens();
            variables = new Names();
            labels = new Names();
            faultPlace = -1;
        }

        /** The position of the latest fault, or -1. */
        int faultPlace() {
            return faultPlace;
        }

        /** Reads the whole tape; answers 0 or the fault. */
        int read(Tape tape, Program p) {
            fault = 0;
            faultPlace = -1;
            variables.clear();
            labels.clear();
            p.clear();
            tokens.cut(tape);
            boolean isFine = readLine(p);
            for (int line = 1; isFine && line <= MOST_INSTRUCTIONS && tokens.kind() != Tokens.END; line++) {
                isFine = readLine(p);
            }
            if (isFine && labels.firstUnset() >= 0) {
                fail(NO_LABEL, labels.firstUnset());
            }
            p.setNames(variables.size(), labels.size());
            return fault;
        }

        private boolean fail(int itsFault, int at) {
            fault = itsFault;
            faultPlace = at;
            return false;
        }

        private boolean readLine(Program p) {
            int kind = tokens.kind();
            if (kind < Tokens.NAME || kind > Tokens.HALT) {
                return fail(FORM, tokens.start());
            }
            if (p.size() >= MOST_INSTRUCTIONS) {
                return fail(LIMIT, tokens.start());
            }
            forgetInstruction();
            if (kind == Tokens.NAME) {
                return readNamed(p);
            }
            tokens.toNext();
            switch (kind) {
                case Tokens.GOTO:
                    return readName(labels) && add(p, Program.GOTO) && take(';');
                case Tokens.IF:
                    return readValue() && keepFirst() && take(Tokens.GOTO)
                            && readName(labels) && add(p, Program.IF) && take(';');
                case Tokens.IN:
                    return readName(variables) && add(p, Program.IN) && take(';');
                case Tokens.OUT:
                    return readValue() && keepFirst() && add(p, Program.OUT) && take(';');
                default:
                    return add(p, Program.HALT) && take(';');
            }
        }

        private void forgetInstruction() {
            target = -1;
            op = -1;
            firstVariable = -1;
            firstNumber = 0;
            secondVariable = -1;
            secondNumber = 0;
        }

        private boolean add(Program p, int sort) {
            p.add(sort, target, op);
            p.setFirst(p.size() - 1, firstVariable, firstNumber);
            p.setSecond(p.size() - 1, secondVariable, secondNumber);
            return true;
        }

        /** A label or an assignment: what the name is, is told by the token behind it. */
        private boolean readNamed(Program p) {
            long word = tokens.content();
            int at = tokens.start();
            tokens.toNext();
            if (tokens.kind() == ':') {
                target = labels.find(word, at);
                if (!labels.setOnce(target)) {
                    return fail(LIMIT, at);
                }
                return add(p, Program.LABEL) && take(':');
            }
            if (tokens.kind() != '=') {
                return fail(FORM, tokens.start());
            }
            target = variables.find(word, at);
            if (target < 0) {
                return fail(LIMIT, at);
            }
            if (!take('=') || !readValue() || !keepFirst()) {
                return false;
            }
            op = Tokens.opOf(tokens.kind());
            if (op < 0) {
                return add(p, Program.SET) && take(';');
            }
            tokens.toNext();
            return readValue() && keepSecond() && add(p, Program.RECKON) && take(';');
        }

        private boolean take(int kind) {
            if (tokens.kind() != kind) {
                return fail(FORM, tokens.start());
            }
            tokens.toNext();
            return true;
        }

        private boolean readName(Names names) {
            target = takeName(names);
            return target >= 0;
        }

        /** The number of the name that the token is, or -1 if there is a fault, which is noted. */
        private int takeName(Names names) {
            if (tokens.kind() != Tokens.NAME) {
                fail(FORM, tokens.start());
                return -1;
            }
            int number = names.find(tokens.content(), tokens.start());
            if (number < 0) {
                fail(LIMIT, tokens.start());
                return -1;
            }
            tokens.toNext();
            return number;
        }

        private boolean keepFirst() {
            firstVariable = variable;
            firstNumber = amount;
            return true;
        }

        private boolean keepSecond() {
            secondVariable = variable;
            secondNumber = amount;
            return true;
        }

        private boolean readValue() {
            variable = -1;
            amount = 0;
            if (tokens.kind() == Tokens.NAME) {
                variable = takeName(variables);
                return variable >= 0;
            }
            boolean isNegative = tokens.kind() == '-';
            if (isNegative) {
                tokens.toNext();
            }
            amount = isNegative ? -tokens.content() : tokens.content();
            return take(Tokens.NUMBER);
        }
    }

    /** Which instructions of a program can be come to, and which variables are live there. */
    private static final class Flow {
        private final boolean[] isReached;
        private final int[] ahead;
        private final int[] behind;

        Flow() {
            isReached = new boolean[MOST_INSTRUCTIONS];
            ahead = new int[MOST_INSTRUCTIONS];
            behind = new int[MOST_INSTRUCTIONS];
        }

        boolean reaches(int i) {
            return i >= 0 && i < isReached.length && isReached[i];
        }

        int liveAhead(int i) {
            return i >= 0 && i < ahead.length ? ahead[i] : 0;
        }

        int liveBehind(int i) {
            return i >= 0 && i < behind.length ? behind[i] : 0;
        }

        /** Looks at the program as it is now; the questions above are about the one that was looked at last. */
        void look(Program p) {
            p.link();
            for (int i = 0; i < MOST_INSTRUCTIONS; i++) {
                isReached[i] = false;
                ahead[i] = 0;
                behind[i] = 0;
            }
            reach(p, 0);
            boolean isChanged = true;
            for (int turn = 0; isChanged && turn < FAR; turn++) {
                isChanged = goForward(p);
            }
            isChanged = true;
            for (int turn = 0; isChanged && turn < FAR; turn++) {
                isChanged = goBackward(p);
            }
        }

        private boolean goForward(Program p) {
            boolean isChanged = false;
            for (int i = 0; i < p.size(); i++) {
                if (reaches(i)) {
                    boolean isNext = reach(p, p.nextOf(i));
                    boolean isJump = reach(p, p.jumpOf(i));
                    isChanged = isChanged || isNext || isJump;
                }
            }
            return isChanged;
        }

        /** Tells whether this is new. */
        private boolean reach(Program p, int i) {
            if (!p.has(i) || i >= isReached.length || isReached[i]) {
                return false;
            }
            isReached[i] = true;
            return true;
        }

        private boolean goBackward(Program p) {
            boolean isChanged = false;
            for (int i = Math.min(p.size(), MOST_INSTRUCTIONS) - 1; i >= 0; i--) {
                int isBehind = aheadOf(p, p.nextOf(i)) | aheadOf(p, p.jumpOf(i));
                int isAhead = p.readSet(i) | isBehind & ~p.assignedSet(i);
                isChanged = isChanged || isBehind != behind[i] || isAhead != ahead[i];
                behind[i] = isBehind;
                ahead[i] = isAhead;
            }
            return isChanged;
        }

        private int aheadOf(Program p, int i) {
            return p.has(i) ? liveAhead(i) : 0;
        }

        /** Notes in a new program all that is asked for later. */
        void measure(Program p) {
            look(p);
            int blocks = 0;
            int loops = 0;
            int unreached = 0;
            for (int i = 0; i < p.size(); i++) {
                blocks += p.startsBlock(i) ? 1 : 0;
                loops += p.loopEnd(i) >= 0 ? 1 : 0;
                unreached += reaches(i) ? 0 : 1;
                p.setLive(i, liveBehind(i));
            }
            p.setMeasures(blocks, loops, unreached);
        }
    }

    /** The passes that go through each block for itself. */
    private static final class BlockPasses {
        /** What is known of each variable at the instruction that is looked at. */
        private final boolean[] isKnown;
        private final long[] known;
        private final int[] copied;

        BlockPasses() {
            isKnown = new boolean[MOST_NAMES];
            known = new long[MOST_NAMES];
            copied = new int[MOST_NAMES];
        }

        int fold(Program p) {
            int changes = 0;
            for (int i = 0; i < p.size(); i++) {
                if (p.startsBlock(i)) {
                    forgetNumbers();
                }
                changes += putNumbers(p, i) + foldOne(p, i);
                learnNumber(p, i);
            }
            p.removeMarked();
            return changes;
        }

        private void forgetNumbers() {
            for (int v = 0; v < MOST_NAMES; v++) {
                isKnown[v] = false;
            }
        }

        private boolean knows(int v) {
            return v >= 0 && v < isKnown.length && isKnown[v];
        }

        private long knownOf(int v) {
            return v >= 0 && v < known.length ? known[v] : 0;
        }

        private int putNumbers(Program p, int i) {
            int changes = 0;
            int v = p.firstVariableAt(i);
            if (knows(v)) {
                p.setFirst(i, -1, knownOf(v));
                changes++;
            }
            int w = p.secondVariableAt(i);
            if (knows(w)) {
                p.setSecond(i, -1, knownOf(w));
                changes++;
            }
            return changes;
        }

        private int foldOne(Program p, int i) {
            int sort = p.sortAt(i);
            if (p.firstVariableAt(i) >= 0 || p.secondVariableAt(i) >= 0) {
                return 0;
            }
            if (sort == Program.RECKON) {
                p.setPlain(i, -1, reckon(p.opAt(i), p.firstNumberAt(i), p.secondNumberAt(i)));
                return 1;
            }
            if (sort == Program.IF) {
                if (p.firstNumberAt(i) == 0) {
                    p.mark(i);
                } else {
                    p.setGoto(i);
                }
                return 1;
            }
            return 0;
        }

        private void learnNumber(Program p, int i) {
            int x = p.assigned(i);
            if (x >= 0 && x < MOST_NAMES) {
                isKnown[x] = p.sortAt(i) == Program.SET && p.firstVariableAt(i) < 0;
                known[x] = p.firstNumberAt(i);
            }
        }

        /** The pass copy. */
        int lookThroughCopies(Program p) {
            int changes = 0;
            for (int i = 0; i < p.size(); i++) {
                if (p.startsBlock(i)) {
                    forgetCopies();
                }
                changes += putCopies(p, i);
                if (p.sortAt(i) == Program.SET && p.firstVariableAt(i) == p.targetAt(i)) {
                    p.mark(i);
                    changes++;
                } else {
                    learnCopy(p, i);
                }
            }
            p.removeMarked();
            return changes;
        }

        private void forgetCopies() {
            for (int v = 0; v < MOST_NAMES; v++) {
                copied[v] = -1;
            }
        }

        private int copiedBy(int v) {
            return v >= 0 && v < copied.length ? copied[v] : -1;
        }

        private int putCopies(Program p, int i) {
            int changes = 0;
            int v = copiedBy(p.firstVariableAt(i));
            if (v >= 0) {
                p.setFirst(i, v, 0);
                changes++;
            }
            int w = copiedBy(p.secondVariableAt(i));
            if (w >= 0) {
                p.setSecond(i, w, 0);
                changes++;
            }
            return changes;
        }

        private void learnCopy(Program p, int i) {
            int x = p.assigned(i);
            if (x < 0 || x >= MOST_NAMES) {
                return;
            }
            for (int v = 0; v < MOST_NAMES; v++) {
                if (copied[v] == x) {
                    copied[v] = -1;
                }
            }
            copied[x] = p.sortAt(i) == Program.SET ? p.firstVariableAt(i) : -1;
        }

        /** The pass value. */
        int takeValues(Program p) {
            int changes = 0;
            int start = 0;
            for (int i = 0; i < p.size(); i++) {
                if (p.startsBlock(i)) {
                    start = i;
                }
                int from = sameValue(p, start, i);
                if (from >= 0) {
                    p.setPlain(i, p.targetAt(from), 0);
                    changes++;
                }
            }
            return changes;
        }

        /** The first instruction from start on whose variable still holds what the one at i reckons, or -1. */
        private static int sameValue(Program p, int start, int i) {
            if (p.sortAt(i) != Program.RECKON) {
                return -1;
            }
            int reads = p.readSet(i);
            for (int k = start; k < i; k++) {
                int y = p.assignedSet(k);
                if (reckonsSame(p, k, i) && (y & reads) == 0 && (assignedBetween(p, k, i) & (y | reads)) == 0) {
                    return k;
                }
            }
            return -1;
        }

        private static boolean reckonsSame(Program p, int k, int i) {
            if (p.sortAt(k) != Program.RECKON || p.opAt(k) != p.opAt(i)) {
                return false;
            }
            boolean isSame = p.firstVariableAt(k) == p.firstVariableAt(i) && p.firstNumberAt(k) == p.firstNumberAt(i)
                    && p.secondVariableAt(k) == p.secondVariableAt(i) && p.secondNumberAt(k) == p.secondNumberAt(i);
            boolean isTurned = p.firstVariableAt(k) == p.secondVariableAt(i) && p.firstNumberAt(k) == p.secondNumberAt(i)
                    && p.secondVariableAt(k) == p.firstVariableAt(i) && p.secondNumberAt(k) == p.firstNumberAt(i);
            return isSame || isTurned && canTurn(p.opAt(i));
        }

        /** Whether v op w is always w op v: + * & | ^ = */
        private static boolean canTurn(int op) {
            return op == 0 || op == 2 || op == 5 || op == 6 || op == 7 || op == 9;
        }

        private static int assignedBetween(Program p, int k, int i) {
            int assigned = 0;
            for (int j = k + 1; j < i; j++) {
                assigned |= p.assignedSet(j);
            }
            return assigned;
        }
    }

    /** The passes that look at the ways through the whole program. */
    private static final class FlowPasses {
        private final Flow flow;

        FlowPasses() {
            flow = new Flow();
        }

        int drop(Program p) {
            int changes = 0;
            for (int turn = 0; turn < FAR; turn++) {
                flow.look(p);
                int needless = firstNeedless(p);
                if (needless < 0) {
                    break;
                }
                p.removeAt(needless);
                changes++;
            }
            return changes;
        }

        private int firstNeedless(Program p) {
            for (int i = 0; i < p.size(); i++) {
                if (isNeedless(p, i)) {
                    return i;
                }
            }
            return -1;
        }

        private boolean isNeedless(Program p, int i) {
            switch (p.sortAt(i)) {
                case Program.LABEL:
                    return p.jumpsTo(p.targetAt(i)) == 0;
                case Program.SET:
                case Program.RECKON:
                    return !flow.reaches(i) || (p.assignedSet(i) & flow.liveBehind(i)) == 0;
                case Program.GOTO:
                    return !flow.reaches(i) || p.jumpOf(i) > i && p.jumpOf(i) < p.pastLabels(i + 1);
                default:
                    return !flow.reaches(i);
            }
        }

        int move(Program p) {
            int changes = 0;
            boolean isChanged = true;
            for (int turn = 0; isChanged && turn < FAR; turn++) {
                flow.look(p);
                isChanged = moveFirst(p);
                changes += isChanged ? 1 : 0;
            }
            return changes;
        }

        /** Moves the first instruction that can be, of the first loop that has one; tells whether there was one. */
        private boolean moveFirst(Program p) {
            for (int i = 0; i < p.size(); i++) {
                int end = p.loopEnd(i);
                int movable = end < 0 ? -1 : firstMovable(p, i, end);
                if (movable >= 0) {
                    p.moveUp(movable, i);
                    return true;
                }
            }
            return false;
        }

        private int firstMovable(Program p, int i, int end) {
            int assigned = 0;
            int assignedTwice = 0;
            int liveOutside = 0;
            for (int k = i; k <= end; k++) {
                assignedTwice |= assigned & p.assignedSet(k);
                assigned |= p.assignedSet(k);
                liveOutside |= outsideAhead(p, p.nextOf(k), i, end) | outsideAhead(p, p.jumpOf(k), i, end);
            }
            int fixed = assignedTwice | liveOutside | flow.liveBehind(i);
            for (int k = i + 1; k < end; k++) {
                boolean isPlain = p.sortAt(k) == Program.SET || p.sortAt(k) == Program.RECKON;
                if (isPlain && (p.readSet(k) & assigned) == 0 && (p.assignedSet(k) & fixed) == 0) {
                    return k;
                }
            }
            return -1;
        }

        /** What is live ahead of a place outside of a loop; nothing if it is inside, or behind the program. */
        private int outsideAhead(Program p, int at, int i, int end) {
            boolean isInside = at >= i && at <= end;
            return isInside || !p.has(at) ? 0 : flow.liveAhead(at);
        }
    }

    /** Runs a program, and holds what came of the latest run. */
    private static final class Machine {
        private static final int MOST_KEPT = 60;

        private final long[] values;
        private final long[] outputs;
        private int outputCount;
        private int readCount;
        private int steps;
        private boolean isStopped;

        Machine() {
            values = new long[MOST_NAMES];
            outputs = new long[MOST_KEPT];
        }

        int steps() {
            return steps;
        }

        /** How many numbers are kept of those that were put out. */
        int kept() {
            return Math.min(outputCount, MOST_KEPT);
        }

        long keptAt(int i) {
            return i >= 0 && i < outputs.length ? outputs[i] : 0;
        }

        long valueOf(int v) {
            return v >= 0 && v < values.length ? values[v] : 0;
        }

        /** What ran() tells. */
        int report(int what) {
            switch (what) {
                case 0:
                    return isStopped ? 1 : 0;
                case 1:
                    return outputCount;
                default:
                    return readCount;
            }
        }

        /** Whether a comparison tells these two runs apart. */
        boolean isUnlike(Machine other) {
            if (isStopped != other.isStopped) {
                return true;
            }
            if (!isStopped) {
                return false;
            }
            if (outputCount != other.outputCount) {
                return true;
            }
            for (int i = 0; i < kept(); i++) {
                if (keptAt(i) != other.keptAt(i)) {
                    return true;
                }
            }
            return false;
        }

        void execute(Program p, long[] input, int inputSize, int most) {
            for (int v = 0; v < values.length; v++) {
                values[v] = 0;
            }
            outputCount = 0;
            readCount = 0;
            int at = p.pastLabels(0);
            int done = 0;
            while (done < most && p.has(at)) {
                if (p.sortAt(at) == Program.IN) {
                    boolean isGiven = readCount < inputSize && readCount < input.length;
                    setValue(p.targetAt(at), isGiven ? input[readCount] : 0);
                    readCount++;
                }
                at = p.pastLabels(follow(p, at));
                done++;
            }
            steps = done;
            isStopped = !p.has(at);
        }

        /** Does the instruction, but for what an in does; answers the place of the next one. */
        private int follow(Program p, int at) {
            long v = operand(p.firstVariableAt(at), p.firstNumberAt(at));
            switch (p.sortAt(at)) {
                case Program.SET:
                    setValue(p.targetAt(at), v);
                    break;
                case Program.RECKON:
                    long w = operand(p.secondVariableAt(at), p.secondNumberAt(at));
                    setValue(p.targetAt(at), reckon(p.opAt(at), v, w));
                    break;
                case Program.OUT:
                    putOut(v);
                    break;
                case Program.IF:
                    return v != 0 ? p.jumpOf(at) : at + 1;
                case Program.GOTO:
                    return p.jumpOf(at);
                default:
                    break;
            }
            return p.nextOf(at);
        }

        private long operand(int variable, long value) {
            return variable < 0 ? value : valueOf(variable);
        }

        private void setValue(int v, long value) {
            if (v >= 0 && v < values.length) {
                values[v] = value;
            }
        }

        private void putOut(long value) {
            if (outputCount >= 0 && outputCount < outputs.length) {
                outputs[outputCount] = value;
            }
            outputCount++;
        }
    }
}
