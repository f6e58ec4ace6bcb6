import java.util.ArrayList;
import java.util.List;

/** What is asked goes by what was done by hand: as by a JUNCTION that was told so, and changes nothing of it. */
public final class AsNowTest extends Told {
    private static final String[] ASKED = {"served", "round", "chance", "rests", "errand", "table", "stand", "ring",
        "best", "ahead", "most", "was", "years", "buyer", "tray", "judged"};
    private static final String[] HANDS = {"bell", "urn", "women", "hot", "out"};
    private static final int BELL = 0;
    private static final int URN = 1;
    private static final int WOMEN = 2;
    private static final int HOT = 3;
    private static final int OUT = 4;
    private static final int BUYERS = 5;

    /** How many of the answers of each one asked were others by each thing done by hand. */
    private static final int[][] OTHER = new int[ASKED.length][HANDS.length];

    private AsNowTest() {
    }

    public static void main(String[] args) {
        for (int women = 1; women <= 2; women++) {
            for (int out = 1; out < 1 << BUYERS; out += 3) {
                compare(told(240, 0, women, 85, 95), out, BELL, told(150, 0, women, 85, 95), out);
                compare(told(120 + 5 * out, 0, women, 85, 95), out, URN,
                        told(120 + 5 * out, 50, women, 85, 95), out);
                compare(told(240, 0, women, 85, 95), out, WOMEN, told(240, 0, 3 - women, 85, 95), out);
                compare(told(180, 0, women, 70, 80), out, HOT, told(180, 0, women, 99, 66), out);
                compare(told(240, 0, women, 85, 95), out, OUT, told(240, 0, women, 85, 95), out ^ 9);
            }
        }
        for (int i = 0; i < ASKED.length; i++) {
            for (int hand = 0; hand < HANDS.length; hand++) {
                due(ASKED[i] + " may be another one by " + HANDS[hand], OTHER[i][hand] > 0 ? 1 : 0, mayBeOther(i, hand));
            }
        }
        Check.end("AsNowTest");
    }

    /** The TRAY goes along to all, DAYS go from the beginning; the others have no use for what they set themselves. */
    private static int mayBeOther(int asked, int hand) {
        return switch (ASKED[asked]) {
            case "tray", "judged" -> 0;
            case "chance", "years" -> hand == OUT ? 0 : 1;
            case "buyer" -> hand == WOMEN || hand == HOT ? 0 : 1;
            case "errand", "was" -> hand == HOT ? 0 : 1;
            case "table" -> hand == WOMEN ? 0 : 1;
            case "stand" -> hand == URN ? 0 : 1;
            case "ring" -> hand == BELL ? 0 : 1;
            default -> 1;
        };
    }

    /** The COACHES told so many yards nearer stand for an urn that many yards along. */
    private static String told(int bell, int urn, int women, int cha, int pot) {
        return "stop 300 bell " + bell + "; women " + women + "; change 15; lips 60; sip 15; pace 4; late 4 3 2 1;"
                + "order many * 40 - waits - far;" + coach("a", 50 - urn) + coach("b", 110 - urn) + coach("c", 200 - urn)
                + tea("cha", 25, 7, cha, 16) + tea("mug", 12, 5, 76, 19) + pie("bun", 10, 2)
                + "thing pot soup secs 30 price 9 hot " + pot + " cools 17;"
                + buyer("ann", "plain", "a", 6, 9, "cha bun") + buyer("bob", "pound", "b", 7, 3, "pot cha")
                + buyer("cis", "early", "c", 3, 5, "bun pot mug") + buyer("dan", "plain", "b", 9, 2, "cha")
                + buyer("eve", "plain", "c", 4, 7, "mug pot");
    }

    private static TeaJunction told(String text, int out) {
        TeaJunction x = Check.at(text);
        due("days", Check.days(x, "out ann; out cis; run; out dan; run; in ann; run;"), 0);
        for (int i = 0; i < BUYERS; i++) {
            due("out", x.out(i, true) ? 1 : 0, 1);
            due("in", (out >> i & 1) == 0 && !x.out(i, false) ? 1 : 0, 0);
        }
        return x;
    }

    /** One is told as the first text, then done by hand till it is as the second one; new ones for each thing asked. */
    private static void compare(String first, int out, int hand, String second, int outThen) {
        for (int i = 0; i < ASKED.length; i++) {
            TeaJunction x = told(first, out);
            TeaJunction y = told(second, outThen);
            TeaJunction before = told(first, out);
            byHand(x, hand, y);
            List<Integer> got = answers(x, ASKED[i]);
            List<Integer> old = answers(before, ASKED[i]);
            // The yards where the urn is best, and DAYS, go by the COACHES as they were told.
            boolean asBefore = hand == URN && ASKED[i].equals("stand") || ASKED[i].equals("judged");
            List<Integer> want = asBefore ? old : answers(y, ASKED[i]);
            due(ASKED[i] + " by " + HANDS[hand] + ", out " + out + ", " + first, got.equals(want) ? 1 : 0, 1);
            OTHER[i][hand] += got.equals(old) ? 0 : 1;
            due("the bell stays", x.count(4), y.count(4));
            due("the urn stays", x.count(5), hand == URN ? 50 : 0);
            due("the women stay", x.count(6), y.count(6));
            due("who is out stays", x.count(7), outThen);
        }
    }

    private static void byHand(TeaJunction x, int hand, TeaJunction y) {
        switch (hand) {
            case BELL -> yes("bell", x.set(0, y.count(4)));
            case URN -> yes("urn", x.set(1, 50));
            case WOMEN -> yes("women", x.set(2, y.count(6)));
            case HOT -> yes("hot", x.heats(0, y.thing(0, 3)) && x.heats(3, y.thing(3, 3)));
            default -> {
                int other = x.count(7) ^ y.count(7);
                for (int i = 0; i < BUYERS; i++) {
                    due("out", x.out(i, y.buyer(i, 5) == 1) ? 1 : 0, other >> i & 1);
                }
            }
        }
    }

    private static List<Integer> answers(TeaJunction x, String asked) {
        List<Integer> all = new ArrayList<>();
        switch (asked) {
            case "stand" -> all.add(x.stand());
            case "ring" -> all.add(x.ring());
            case "was" -> was(x, all);
            case "chance" -> {
                for (int i = 0; i < BUYERS; i++) {
                    all.add(x.chance(i));
                }
            }
            case "rests", "errand" -> {
                for (int some = 1; some < 1 << BUYERS; some++) {
                    for (int what = -1; what < 3; what++) {
                        all.add(asked.equals("rests") ? Check.rests(x, some, what) : x.errand(some, what));
                    }
                }
            }
            default -> byTwo(x, asked, all);
        }
        return all;
    }

    private static void was(TeaJunction x, List<Integer> all) {
        yes("mark", x.mark(3, false));
        for (int seconds = 60; seconds <= 300; seconds += 30) {
            for (int served = 0; served <= BUYERS; served++) {
                yes("see", x.see(seconds, served));
                all.add(x.was());
                yes("nothing SEEN again", x.mark(3, true));
            }
        }
    }

    private static void byTwo(TeaJunction x, String asked, List<Integer> all) {
        for (int i = 0; i < BUYERS; i++) {
            for (int what = 0; what < 8; what++) {
                switch (asked) {
                    case "served" -> all.add(x.served(i, what));
                    case "round" -> all.add(x.round(what));
                    case "buyer" -> all.add(x.buyer(i, what));
                    case "table" -> all.add(x.table(i, what));
                    case "best" -> all.add(x.best(i, what % 2 == 0));
                    case "ahead" -> all.add(x.ahead(i, what));
                    case "most" -> all.add(x.most(i));
                    case "years" -> all.add(x.years(i * 1234, 1 + what * 7, i % 3));
                    case "tray" -> all.add(what == 7 ? x.price(i * 4) : x.tray(i * 3, what));
                    default -> all.add(x.judged(what));
                }
            }
        }
    }
}
