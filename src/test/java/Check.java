import java.util.NoSuchElementException;

/** What the tests share: counting answers, and telling texts to a TeaJunction. */
final class Check {
    /** What stands for a call that threw a NoSuchElementException. */
    static final int THREW = -1000000;

    private static int passed;
    private static int failed;

    private Check() {
    }

    static void due(String what, long got, long want) {
        if (got == want) {
            passed++;
            return;
        }
        failed++;
        if (failed < 60) {
            System.out.println(what + " answered " + got + ", due is " + want);
        }
    }

    static void due(String what, boolean got, boolean want) {
        due(what, got ? 1 : 0, want ? 1 : 0);
    }

    static void end(String name) {
        System.out.println(name + ": " + passed + " passed, " + failed + " failed");
        if (failed > 0 || passed == 0) {
            System.exit(1);
        }
    }

    static void feed(TeaJunction x, String text) {
        for (int at = 0; at < text.length(); at += 24) {
            long[] part = new long[3];
            for (int i = 0; i < 24; i++) {
                int sign = at + i < text.length() ? text.charAt(at + i) : 0;
                part[i / 8] = part[i / 8] << 8 | sign;
            }
            x.feed(part[0], part[1], part[2]);
        }
    }

    static int junction(TeaJunction x, String text) {
        feed(x, text);
        return x.junction();
    }

    static int days(TeaJunction x, String text) {
        feed(x, text);
        return x.days();
    }

    static TeaJunction at(String text) {
        TeaJunction x = new TeaJunction();
        due("junction of " + text, junction(x, text), 0);
        return x;
    }

    static int rests(TeaJunction x, int buyers, int what) {
        try {
            return x.rests(buyers, what);
        } catch (NoSuchElementException e) {
            return THREW;
        }
    }
}
