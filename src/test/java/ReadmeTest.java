import java.io.IOException;
import java.nio.file.Files;
import java.nio.file.Path;
import java.util.NoSuchElementException;
import java.util.regex.Matcher;
import java.util.regex.Pattern;

/** The example of README.md, call by call, and that README.md shows these very lines. Runs in the project's folder. */
public final class ReadmeTest {
    private ReadmeTest() {
    }

    public static void main(String[] args) throws IOException {
        example();
        refused();
        shown(Files.readString(Path.of("README.md")), Files.readString(Path.of("src/test/java/ReadmeTest.java")));
        Check.end("ReadmeTest");
    }

    private static void due(String what, long got, long want) {
        Check.due(what, got, want);
    }

    private static void due(String what, boolean got, boolean want) {
        Check.due(what, got, want);
    }

    static void feed(TeaJunction x, String text) {
        for (int at = 0; at < text.length(); at += 24) {
            long[] part = new long[3];
            for (int i = 0; i < 24; i++) {
                int sign = at + i < text.length() ? text.charAt(at + i) : 0;
                part[i / 8] = part[i / 8] << 8 | sign;
            }
            x.feed(part[0], part[1], part[2]);
        }
    }

    private static void example() {
        TeaJunction x = new TeaJunction();
        feed(x, "stop 300 bell 240; women 1; lips 70; sip 20;"
                + "coach front yards 0; coach rear yards 100;"
                + "thing cha tea secs 20 price 3 hot 90 cools 10;"
                + "thing bun pie secs 5 price 2 hot 0 cools 0;"
                + "buyer ann plain coach front odds 5 dear 2 wants bun cha;"
                + "buyer bob pound coach rear odds 8 dear 6 wants cha; order exact;");
        int fault = x.junction();
        due("fault", fault, 0);
        feed(x, "out ann; run; urn 50; run;");
        int daysFault = x.days();
        due("daysFault", daysFault, 0);
        due("idle", x.judged(0), -1);
        due("pence", x.judged(1), 10);
        due("drunk", x.judged(2), 4);
        due("ann out", x.out(0, true), true);
        due("bob out", x.out(1, true), true);
        due("begins", x.served(1, 0), 50);
        due("served", x.served(1, 1), 80);
        due("drinks", x.served(1, 2), 1);
        due("bell", x.set(0, 150), true);
        due("left", x.served(1, 3), 1);
        due("undone", x.undo(), true);
        due("most", x.round(1), 3);
        due("urn", x.stand(), 0);
        due("ring", x.ring(), 220);
    }

    private static void refused() {
        TeaJunction x = new TeaJunction();
        due("no such THING", x.thing(0, 0), -1);
        due("no such BUYER", x.served(0, 0), -2);
        due("no such second", x.set(0, 601), false);
        feed(x, "women 3;");
        due("fault", x.junction(), 4 + 16 * 6);
        due("women", x.count(6), 2);
        due("tape", x.count(12), 0);
        boolean threw = false;
        try {
            x.rests(1, 0);
        } catch (NoSuchElementException e) {
            threw = true;
        }
        due("threw", threw, true);
    }

    /** Each line of README.md's Java stands here too: a call with its answer as a due, all else word by word. */
    private static void shown(String readme, String here) {
        String flat = here.replaceAll("\\s+", " ");
        int calls = 0;
        Matcher block = Pattern.compile("```java\n(.*?)```", Pattern.DOTALL).matcher(readme);
        while (block.find()) {
            for (String line : block.group(1).split("\n")) {
                Matcher call = Pattern.compile("^(x\\.\\w+\\(.*\\)); +// (-?\\w+)\\b.*").matcher(line);
                boolean told = call.matches();
                calls += told ? 1 : 0;
                String want = told ? call.group(1) + ", " + call.group(2) + ");" : line.replaceAll(" +// .*", "").trim();
                due("README.md: " + line, flat.contains(want.replaceAll("\\s+", " ")), true);
            }
        }
        due("calls shown", calls, 13);
    }
}
