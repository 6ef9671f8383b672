/** Section 2 of the document, sentence by sentence: blocks, loops, when a variable is live, and the pass move. */
public final class FlowEdgeTest {
    private static final int MOVE = 4;

    public static void main(String[] args) {
        blocks();
        loops();
        loopsThatAreNone();
        loopsEnteredFromOutside();
        mostOfEach();
        unreached();
        liveBehind();
        liveAlongWays();
        liveOfEachVariable();
        liveOfEachProgram();
        measuresOfPasses();
        movesFromEachPlace();
        movesAssignmentsOnly();
        movesIfNothingAssignsVOrW();
        movesIfNothingElseAssignsX();
        movesIfNotLiveBehindTheLabel();
        movesIfNotLiveOutside();
        movesInOrder();
        movesThroughLoops();
        Check.end("FlowEdgeTest");
    }

    private static void count(String text, int what, int due) {
        Check.is("count " + what + " of " + text, Check.with(text).count(0, what), due);
    }

    /** "behind none of them but the last one stands a label, and none but the last one is a goto, an if or a halt" */
    private static void blocks() {
        count("out 1;", 3, 1);
        count("k:", 3, 1);
        count("k: out 1;", 3, 1);
        count("out 1; k:", 3, 2);
        count("k: m:", 3, 2);
        count("halt;", 3, 1);
        count("halt; halt;", 3, 2);
        count("out 1; halt;", 3, 1);
        count("halt; out 1;", 3, 2);
        count("in a; a = 1; a = a + 1; out a; in a;", 3, 1);
        count("k: goto k;", 3, 1);
        count("k: goto k; out 1;", 3, 2);
        count("k: goto k; m:", 3, 2);
        count("k: if a goto k; out 1;", 3, 2);
        count("out 1; k: if 0 goto k;", 3, 2);
        count("halt; k: halt;", 3, 2);
        count("halt; out 1; k: halt;", 3, 3);
    }

    /** "a loop is a label at the place i and a goto or if to it at a place j > i" */
    private static void loops() {
        count("k: goto k;", 4, 1);
        count("k: if a goto k;", 4, 1);
        count("out 1; k: out 2; if 0 goto k; out 3;", 4, 1);
        count("halt; k: goto k;", 4, 1);
        count("k: m: if a goto m; if a goto k;", 4, 2);
        count("k: if a goto k; m: if a goto m;", 4, 2);
        count("k: if a goto m; out 1; m: goto k;", 4, 1);
        count("k: if a goto z; out 1; goto k; z:", 4, 1);
        count("goto z; k: goto k; z:", 4, 1);
        count("m: k: out 1; if a goto k; goto m;", 4, 2);
    }

    /** "which is the only one that leads to this label" */
    private static void loopsThatAreNone() {
        count("out 1;", 4, 0);
        count("k: out 1;", 4, 0);
        count("goto k; k:", 4, 0);
        count("if a goto k; out 1; k: out 2;", 4, 0);
        count("k: if a goto k; goto k;", 4, 0);
        count("k: goto k; goto k;", 4, 0);
        count("goto k; k: goto k;", 4, 0);
        count("if a goto k; k: if a goto k;", 4, 0);
        count("k: if a goto k; halt; goto k;", 4, 0);
        count("halt; goto k; k: goto k;", 4, 0);
    }

    /** "so that no goto or if from a place that is not i to j leads to a label at a place i + 1 to j" */
    private static void loopsEnteredFromOutside() {
        count("goto m; k: m: out 1; goto k;", 4, 0);
        count("goto m; k: out 1; m: goto k;", 4, 0);
        count("if a goto m; k: out 1; m: if a goto k;", 4, 0);
        count("goto m; k: out 1; goto k; m:", 4, 1);
        count("goto m; m: k: out 1; goto k;", 4, 1);
        count("k: m: if a goto k; out 1; if b goto m;", 4, 1);
        count("k: out 1; m: if a goto k; goto m;", 4, 1);
        count("k: m: if a goto k; halt; goto m;", 4, 1);
        count("k: if a goto k; m: out 1; goto m;", 4, 2);
        count("k: if a goto m; m: if b goto m; goto k;", 4, 1);
        count("k: if b goto m; out 1; m: out 2; if a goto k; goto m;", 4, 0);
    }

    private static void mostOfEach() {
        PassForge x = Check.with("halt;".repeat(80));
        Check.is("80 blocks", x.count(0, 3), 80);
        Check.is("79 that cannot be come to", x.count(0, 5), 79);
        StringBuilder text = new StringBuilder();
        for (char name = 'a'; name <= 'l'; name++) {
            text.append(name).append(':');
        }
        for (char name = 'l'; name >= 'a'; name--) {
            text.append("if ").append(name).append(" goto ").append(name).append(';');
        }
        PassForge y = Check.with(text.toString());
        Check.is("12 loops", y.count(0, 4), 12);
        Check.is("24 instructions", y.count(0, 0), 24);
        Check.is("12 variables", y.count(0, 1), 12);
        Check.is("12 labels", y.count(0, 2), 12);
        Check.is("24 blocks but one", y.count(0, 3), 23);
        Check.is("all can be come to", y.count(0, 5), 0);
    }

    /** Labels are instructions, too. */
    private static void unreached() {
        count("out 1;", 5, 0);
        count("halt;", 5, 0);
        count("halt; k:", 5, 1);
        count("halt; k: goto k;", 5, 2);
        count("halt; out 1; in a; k: if a goto k; halt;", 5, 5);
        count("goto k; out 1; m: k: out 2;", 5, 2);
        count("if 0 goto k; halt; k: out 2;", 5, 0);
        count("if 1 goto k; out 1; k: out 2;", 5, 0);
        count("goto c; a: goto d; b: goto a; c: goto b; d: halt; out 1;", 5, 1);
    }

    private static void live(String text, int... due) {
        PassForge x = Check.with(text);
        Check.is("instructions of " + text, x.count(0, 0), due.length);
        for (int i = 0; i < due.length; i++) {
            Check.is("live(0, " + i + ") of " + text, x.live(0, i), due[i]);
        }
    }

    /** "if there is a way from there to an instruction that reads x, on which nothing ahead of that one assigns x" */
    private static void liveBehind() {
        live("out a;", 0);
        live("in a; out a;", 1, 0);
        live("in a; in a; out a;", 0, 1, 0);
        live("in a; a = 5; out a;", 0, 1, 0);
        live("in a; a = b; out a;", 2, 1, 0);
        live("in a; a = b + c; out a;", 6, 1, 0);
        live("in a; a = a + 1; out a;", 1, 1, 0);
        live("in a; a = 1 - a; out a;", 1, 1, 0);
        live("in a; b = 5; out b; in b; out a;", 1, 3, 1, 1, 0);
        live("out 1; out a; out b; out a;", 3, 3, 1, 0);
        live("in a; halt;", 0, 0);
        live("in a; halt; out a;", 0, 0, 0);
        live("in a; k: out a;", 1, 1, 0);
        live("in a; if a goto k; k:", 1, 0, 0);
    }

    /** "Ways go along gotos and ifs, both ways of an if, whatever its value is." */
    private static void liveAlongWays() {
        live("in a; goto k; halt; k: out a;", 1, 1, 0, 1, 0);
        live("in a; goto k; out b; k: out a;", 1, 1, 1, 1, 0);
        live("in a; if 0 goto k; halt; k: out a;", 1, 1, 0, 1, 0);
        live("in a; if 1 goto k; out a; k: halt;", 1, 1, 0, 0, 0);
        live("in a; in b; in c; if a goto k; out b; halt; k: out c;", 1, 3, 7, 6, 0, 0, 4, 0);
        live("k: in a; goto k;", 0, 0, 0);
        live("k: out a; in a; goto k;", 1, 0, 1, 1);
        live("k: out a; if b goto k; out c;", 7, 7, 7, 0);
        live("k: a = 1; goto k; out a;", 0, 0, 0, 0);
        live("halt; k: out a; goto k;", 0, 1, 1, 1);
        live("k: goto k;", 0, 0);
        live("goto c; a: goto d; b: goto a; c: goto b; d: out x;", 1, 1, 1, 1, 1, 1, 1, 1, 0);
    }

    /** Each variable is one power of two, up to 2^11. */
    private static void liveOfEachVariable() {
        StringBuilder text = new StringBuilder();
        for (char name = 'a'; name <= 'l'; name++) {
            text.append(name).append(" = 1;");
        }
        for (char name = 'a'; name <= 'l'; name++) {
            text.append("out ").append(name).append(";");
        }
        PassForge x = Check.with(text.toString());
        for (int i = 0; i < 12; i++) {
            Check.is("behind " + i, x.live(0, i), (2 << i) - 1);
            Check.is("behind " + (12 + i), x.live(0, 12 + i), 4095 & -(2 << i));
        }
    }

    /** What one program has does not come into the next one. */
    private static void liveOfEachProgram() {
        PassForge x = Check.with("k: out a; out b; goto k; out c; halt; goto k;");
        Check.compile(x, "k: c = 1; goto k;");
        Check.compile(x, "halt;");
        Check.compile(x, "k: out c; goto k;");
        for (int i = 0; i < 3; i++) {
            Check.is("nothing is live", x.live(1, i), 0);
            Check.is("c is live", x.live(3, i), 1);
        }
        Check.is("nothing is live", x.live(2, 0), 0);
        Check.is("loops", x.count(1, 4), 1);
        Check.is("loops", x.count(0, 4), 0);
        Check.is("all can be come to", x.count(1, 5), 0);
        Check.is("some cannot", x.count(0, 5), 3);
        Check.is("the first one stays", x.live(0, 0), 3);
    }

    /** A program that a pass made is measured as one of a text is. */
    private static void measuresOfPasses() {
        PassForge x = Check.with("a = 1; k: b = 2; if 0 goto m; if 1 goto k; out a; m: out b; goto m; out 7;");
        Check.is("fold", x.pass(0, 0), 2);
        Check.same("folded", Check.show(x, 1, "a b k: m:"), "a = 1; k: b = 2; goto k; out a; m: out b; goto m; out 7;");
        measured(x, 0, new int[] {10, 2, 2, 6, 1, 1}, new int[] {1, 1, 3, 3, 3, 2, 2, 2, 2, 0});
        measured(x, 1, new int[] {9, 2, 2, 5, 2, 5}, new int[] {0, 0, 0, 0, 2, 2, 2, 2, 0});
        Check.is("better", x.better(0), 9);
        Check.same("better", Check.show(x, 2, "a b k: m:"), "k: goto k;");
        measured(x, 2, new int[] {2, 2, 2, 1, 1, 0}, new int[] {0, 0});
    }

    private static void measured(PassForge x, int program, int[] counts, int[] lives) {
        for (int what = 0; what < 6; what++) {
            Check.is("count(" + program + ", " + what + ")", x.count(program, what), counts[what]);
        }
        for (int i = 0; i < lives.length; i++) {
            Check.is("live(" + program + ", " + i + ")", x.live(program, i), lives[i]);
        }
    }

    private static void move(String text, int changes, String due) {
        PassForge x = Check.with(text);
        Check.is("move of " + text, x.pass(0, MOVE), changes);
        Check.same("move of " + text, Check.show(x, 1, text), due);
        Check.same("the old one stays: " + text, Check.show(x, 0, text), text);
    }

    private static void stays(String text) {
        move(text, 0, text);
    }

    /** "an instruction at a place k, i < k < j"; "put in just ahead of the label" */
    private static void movesFromEachPlace() {
        move("k: a = 5; goto k;", 1, "a = 5; k: goto k;");
        move("k: a = 5; out a; in b; if b goto k;", 1, "a = 5; k: out a; in b; if b goto k;");
        move("k: in b; out 1; a = 5; if b goto k;", 1, "a = 5; k: in b; out 1; if b goto k;");
        move("out 1; out 2; k: in b; a = 5; out a; if b goto k; out 3;", 1, "out 1; out 2; a = 5; k: in b; out a; if b goto k; out 3;");
        stays("a = 5; k: in b; if b goto k;");
        stays("k: in b; if b goto k; a = 5;");
        stays("k: in b; goto k; a = 5;");
        stays("k: goto k;");
        stays("a = 5; k: out a;");
        move("halt; k: a = 5; out a; goto k;", 1, "halt; a = 5; k: out a; goto k;");
        move("m: k: a = 5; out a; goto k;", 1, "m: a = 5; k: out a; goto k;");
        move("k: m: a = 5; out a; goto k;", 1, "a = 5; k: m: out a; goto k;");
    }

    /** "it is x = v or x = v op w" */
    private static void movesAssignmentsOnly() {
        move("k: a = 5; if b goto k;", 1, "a = 5; k: if b goto k;");
        move("k: a = c; if b goto k;", 1, "a = c; k: if b goto k;");
        move("k: a = 5 + 6; if b goto k;", 1, "a = 5 + 6; k: if b goto k;");
        move("k: a = c / 0; if b goto k;", 1, "a = c / 0; k: if b goto k;");
        move("k: a = c * d; if b goto k;", 1, "a = c * d; k: if b goto k;");
        stays("k: in a; if b goto k;");
        stays("k: out 5; if b goto k;");
        stays("k: halt; if b goto k;");
        stays("k: if b goto z; goto k; z:");
    }

    /** "nothing at the places i to j assigns a variable of v and w"; "x is neither v nor w" */
    private static void movesIfNothingAssignsVOrW() {
        for (String line : new String[] {"c = 7;", "c = d;", "c = c + 1;", "in c;"}) {
            stays("k: a = c; out a; " + line + " if b goto k; out c;");
            stays("k: a = c + d; out a; " + line + " if b goto k; out c;");
            stays("k: a = d - c; out a; " + line + " if b goto k; out c;");
            stays("k: a = c - c; out a; " + line + " if b goto k; out c;");
            move(line + " k: a = c; out a; if b goto k; out c;", 1, line + " a = c; k: out a; if b goto k; out c;");
            move("k: a = c; out a; if b goto k; " + line + " out c;", 1, "a = c; k: out a; if b goto k; " + line + " out c;");
        }
        stays("k: c = c + 1; a = c; out a; if b goto k;");
        stays("k: in c; a = c; out a; if b goto k;");
        stays("k: in c; a = 5 - c; out a; if b goto k;");
        stays("k: in c; out a; if b goto m; a = c + 5; m: goto k;");
        stays("k: a = a; if b goto k;");
        stays("k: a = a + 1; if b goto k;");
        stays("k: a = 1 + a; if b goto k;");
        stays("k: a = a + a; if b goto k;");
    }

    /** "nothing else at these places assigns x" */
    private static void movesIfNothingElseAssignsX() {
        for (String line : new String[] {"a = 7;", "a = d;", "a = d + 1;", "in a;"}) {
            stays("k: a = 5; out a; " + line + " out a; if b goto k;");
            stays("k: " + line + " out a; a = 5; out a; if b goto k;");
            stays("k: a = 5; " + line + " if b goto k;");
            move(line + " k: a = 5; out a; if b goto k;", 1, line + " a = 5; k: out a; if b goto k;");
            move("k: a = 5; out a; if b goto k; " + line + " out a;", 1, "a = 5; k: out a; if b goto k; " + line + " out a;");
        }
    }

    /** "x is not live behind the label at i" */
    private static void movesIfNotLiveBehindTheLabel() {
        stays("k: out a; a = 5; if b goto k;");
        stays("k: c = a; a = 5; out c; if b goto k;");
        stays("k: if a goto z; a = 5; if b goto k; z:");
        stays("k: if b goto m; a = 5; m: out a; goto k;");
        move("k: if b goto m; a = 5; out a; m: in b; goto k;", 1, "a = 5; k: if b goto m; out a; m: in b; goto k;");
        move("out a; k: a = 5; out a; if b goto k;", 1, "out a; a = 5; k: out a; if b goto k;");
        stays("k: in b; a = 5; if a goto k; out a;");
        move("k: in b; a = 5; if a goto k; out b;", 1, "a = 5; k: in b; if a goto k; out b;");
    }

    /** "x is not live ahead of any instruction at a place that is not i to j, which can follow directly on one at a place i to j" */
    private static void movesIfNotLiveOutside() {
        stays("k: a = 5; if b goto k; out a;");
        stays("k: a = 5; if b goto k; out 1; out a;");
        stays("k: a = 5; if b goto k; m: out a;");
        stays("k: a = 5; if b goto z; goto k; z: out a;");
        stays("k: if b goto z; a = 5; goto k; z: a = a + 1; out a;");
        stays("z: out a; k: a = 5; if b goto z; goto k;");
        stays("k: a = 5; goto z; goto k; z: out a;");
        move("k: a = 5; out a; goto k; out a;", 1, "a = 5; k: out a; goto k; out a;");
        move("k: a = 5; halt; goto k; out a;", 1, "a = 5; k: halt; goto k; out a;");
        move("if c goto z; k: a = 5; out a; if b goto k; halt; z: out a;", 1, "if c goto z; a = 5; k: out a; if b goto k; halt; z: out a;");
        move("k: a = 5; if b goto k; a = 6; out a;", 1, "a = 5; k: if b goto k; a = 6; out a;");
        move("k: a = 5; if b goto k; in a; out a;", 1, "a = 5; k: if b goto k; in a; out a;");
        move("k: a = 5; if b goto z; goto k; z: a = 6; out a;", 1, "a = 5; k: if b goto z; goto k; z: a = 6; out a;");
        stays("k: a = 5; if b goto k; if c goto z; a = 6; z: out a;");
        move("k: a = 5; out a; if b goto k;", 1, "a = 5; k: out a; if b goto k;");
    }

    /** "the one of the loop with the least i, of this with the least k"; one change for each */
    private static void movesInOrder() {
        move("k: a = 1; b = 2; c = 3; out a; out b; out c; goto k;", 3, "a = 1; b = 2; c = 3; k: out a; out b; out c; goto k;");
        move("k: in d; c = 3; out c; b = 2; out b; a = 1; out a; if d goto k;", 3, "c = 3; b = 2; a = 1; k: in d; out c; out b; out a; if d goto k;");
        move("k: a = 1; b = a + 1; c = b + a; out c; goto k;", 3, "a = 1; b = a + 1; c = b + a; k: out c; goto k;");
        move("k: b = 2; goto k; m: a = 1; goto m;", 2, "b = 2; k: goto k; a = 1; m: goto m;");
        move("m: in a; if a goto m; k: b = 2; out b; goto k;", 1, "m: in a; if a goto m; b = 2; k: out b; goto k;");
    }

    private static void movesThroughLoops() {
        move("k: in b; m: a = 5; out a; in c; if c goto m; if b goto k;", 1, "a = 5; k: in b; m: out a; in c; if c goto m; if b goto k;");
        move("k: in b; m: a = b; out a; in c; if c goto m; if b goto k;", 1, "k: in b; a = b; m: out a; in c; if c goto m; if b goto k;");
        move("k: m: a = 5; d = 6; out a; in c; if c goto m; out d; goto k;", 2, "a = 5; d = 6; k: m: out a; in c; if c goto m; out d; goto k;");
        move("k: in b; a = 5; m: d = b; c = 6; out d; out c; out a; if c goto m; if b goto k;", 3,
                "a = 5; c = 6; k: in b; d = b; m: out d; out c; out a; if c goto m; if b goto k;");
        stays("goto m; k: a = 5; m: out a; if b goto k;");
        stays("k: a = 5; out a; if b goto k; goto k;");
        stays("k: a = 5; m: out a; if b goto k; goto m;");
    }
}
