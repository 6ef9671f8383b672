/** Promise 21: digest, told again by the other calls, and changed by all that the object holds. */
public final class DigestTest {
    public static void main(String[] args) {
        newObject();
        toldByTheOtherCalls();
        changes();
        Check.end("DigestTest");
    }

    private static void newObject() {
        // the number of programs, of bytes, of the input, ran() and variable(): 1 + 1 + 1 + 3 + 12 times 0
        long due = 401;
        for (int i = 0; i < 18; i++) {
            due *= 31;
        }
        Check.is("digest of a new object", new PassForge().digest(), due);
    }

    private static final long[] INPUT = {3, -4, Long.MAX_VALUE};

    private static PassForge worked() {
        PassForge x = Check.with("in a; l: b = a - -7; out b; a = a - 1; if a goto l; goto m; c = 4; m: halt;");
        x.better(0);
        x.pass(0, 3);
        for (long value : INPUT) {
            x.put(value);
        }
        Check.feed(x, "x = ");
        return x;
    }

    private static void toldByTheOtherCalls() {
        PassForge x = worked();
        Check.is("digest before a run", x.digest(), told(x, INPUT, 4));
        PassForge y = worked();
        y.run(0, 9);
        Check.is("digest behind a run", y.digest(), told(y, INPUT, 4));
        PassForge z = worked();
        Check.compile(z, "n = 66; l: out n; n = n - 1; if n goto l;");
        z.run(3, 5000);
        Check.is("sixty numbers are kept", z.digest(), told(z, INPUT, 0));
    }

    private static long told(PassForge x, long[] input, int bytes) {
        long d = 401 * 31 + x.programs();
        for (int p = 0; p < x.programs(); p++) {
            for (int what = 0; what <= 5; what++) {
                d = d * 31 + x.count(p, what);
            }
            for (int i = 0; i < x.count(p, 0); i++) {
                for (int what = 0; what <= 4; what++) {
                    d = d * 31 + x.code(p, i, what);
                }
                d = d * 31 + x.number(p, i, false);
                d = d * 31 + x.number(p, i, true);
                d = d * 31 + x.live(p, i);
            }
        }
        d = d * 31 + bytes;
        d = d * 31 + input.length;
        for (long value : input) {
            d = d * 31 + value;
        }
        for (int what = 0; what <= 2; what++) {
            d = d * 31 + x.ran(what);
        }
        for (int i = 0; i < Math.min(60, x.ran(1)); i++) {
            d = d * 31 + x.output(i);
        }
        for (int i = 0; i <= 11; i++) {
            d = d * 31 + x.variable(i);
        }
        return d;
    }

    private static void changes() {
        PassForge x = Check.with("in a; out a;");
        long before = x.digest();
        Check.is("asking changes nothing", x.digest(), before);
        x.put(0);
        Check.is("put changes it", x.digest() == before ? 1 : 0, 0);
        x.empty();
        Check.is("empty changes it back", x.digest(), before);
        x.feed(0, 0, 0, 0, 0);
        Check.is("feed changes it", x.digest() == before ? 1 : 0, 0);
        x.trim(0);
        Check.is("trim changes it back", x.digest(), before);
        x.differ(0, 0, 2, 2);
        x.share(0, 0, 2, 2);
        Check.is("comparing changes nothing", x.digest(), before);
        Check.compile(x, "$");
        Check.is("an error changes nothing of it", x.digest(), before);
    }
}
