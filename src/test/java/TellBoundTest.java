/** The bounds of what is told and reckoned from: SOLD and LAWS, SEEN and WAS, YEARS by DRAWS. */
public final class TellBoundTest extends Told {
    private static final int NONE = -1;
    private static final int OTHERS = -2;

    private TellBoundTest() {
    }

    public static void main(String[] args) {
        whatIsSold();
        tenSold();
        lawsOfNothing();
        lawsAtTheEdges();
        lawsThatSayTheSame();
        lawsOfTen();
        whatIsSeen();
        sixSeen();
        wasByTheSecond();
        wasByTheMinute();
        wasOfMany();
        wasAsNow();
        yearsTaken();
        yearsByOdds();
        yearsOfSix();
        Check.end("TellBoundTest");
    }

    private static void whatIsSold() {
        int[][] taken = {{0, 0}, {0, 99}, {9, 0}, {9, 99}};
        for (int[] n : taken) {
            TeaJunction x = new TeaJunction();
            yes("cold " + n[0] + ", " + n[1], x.sell(n[0], n[1]));
            due("SOLD", x.count(9), 1);
        }
        int[][] refused = {{-1, 0}, {10, 0}, {0, -1}, {0, 100}, {-1, -1}, {10, 100}, {9, 100}, {10, 99},
            {Integer.MIN_VALUE, 5}, {Integer.MAX_VALUE, 5}, {5, Integer.MIN_VALUE}, {5, Integer.MAX_VALUE}};
        for (int[] n : refused) {
            TeaJunction x = new TeaJunction();
            no("cold " + n[0] + ", " + n[1], x.sell(n[0], n[1]));
            due("not SOLD", x.count(9), 0);
            due("all LAWS yet", x.laws(NONE), 100);
        }
    }

    private static void tenSold() {
        TeaJunction x = new TeaJunction();
        for (int i = 0; i < 10; i++) {
            due("SOLD", x.count(9), i);
            yes("the same again counts, " + i, x.sell(i, 2 + i));
        }
        due("ten are", x.count(9), 10);
        no("an eleventh", x.sell(1, 3));
        no("an eleventh that is no law", x.sell(0, 7));
        due("ten are", x.count(9), 10);
        due("the law is as it was", x.laws(NONE), 1);
        due("2 + cold", x.laws(9), 11);
        due("none is done by hand", x.count(11), 0);
        due("a JUNCTION", Check.junction(x, "stop 60 bell 1;"), 0);
        due("none are SOLD", x.count(9), 0);
        yes("one is", x.sell(0, 7));
        due("of that alone", x.laws(0), 7);
    }

    private static void lawsOfNothing() {
        TeaJunction x = new TeaJunction();
        due("ten by ten", x.laws(NONE), 100);
        for (int cold = 0; cold <= 9; cold++) {
            due("not the same at " + cold, x.laws(cold), OTHERS);
        }
        int[] others = {-2, -3, 10, 11, Integer.MIN_VALUE, Integer.MAX_VALUE};
        for (int cold : others) {
            due("others", x.laws(cold), OTHERS);
        }
        yes("one law", x.sell(1, 0));
        due("one law", x.laws(NONE), 1);
        due("one law at -2", x.laws(-2), OTHERS);
        due("one law at 10", x.laws(10), OTHERS);
        due("one law at 9", x.laws(9), 0);
    }

    /** a + b * cold of a, b 0 to 9. */
    private static void lawsAtTheEdges() {
        int[][] due = {{0, 0, 10}, {0, 9, 10}, {0, 10, 0}, {0, 99, 0}, {1, 0, 1}, {1, 1, 2}, {1, 9, 10}, {1, 10, 9},
            {1, 17, 2}, {1, 18, 1}, {1, 19, 0}, {2, 27, 1}, {2, 26, 1}, {2, 25, 2}, {2, 28, 0}, {9, 0, 1}, {9, 8, 1},
            {9, 9, 2}, {9, 10, 1}, {9, 89, 1}, {9, 90, 1}, {9, 91, 0}, {9, 99, 0}, {8, 81, 1}, {8, 82, 0}, {8, 80, 1},
            {8, 72, 2}};
        for (int[] n : due) {
            TeaJunction x = new TeaJunction();
            yes("sold", x.sell(n[0], n[1]));
            due("LAWS by " + n[1] + " at " + n[0], x.laws(NONE), n[2]);
            due("what they say there", x.laws(n[0]), n[2] > 0 ? n[1] : OTHERS);
        }
        TeaJunction x = new TeaJunction();
        yes("9 and 9", x.sell(9, 90));
        for (int cold = 0; cold <= 9; cold++) {
            due("9 + 9 * " + cold, x.laws(cold), 9 + 9 * cold);
        }
        yes("0 and 0", new TeaJunction().sell(9, 0));
        x = new TeaJunction();
        yes("9 and 0", x.sell(0, 9));
        yes("9 and 0", x.sell(9, 9));
        due("one law", x.laws(NONE), 1);
        due("9", x.laws(5), 9);
        x = new TeaJunction();
        yes("0 and 9", x.sell(0, 0));
        yes("0 and 9", x.sell(9, 81));
        due("one law", x.laws(NONE), 1);
        due("45", x.laws(5), 45);
    }

    private static void lawsThatSayTheSame() {
        TeaJunction x = new TeaJunction();
        yes("9 + 0 or 0 + 1", x.sell(9, 9));
        due("two", x.laws(NONE), 2);
        for (int cold = 0; cold <= 9; cold++) {
            due("at " + cold, x.laws(cold), cold == 9 ? 9 : OTHERS);
        }
        yes("0 + 1", x.sell(8, 8));
        for (int cold = 0; cold <= 9; cold++) {
            due("at " + cold, x.laws(cold), cold);
        }
        yes("none is so", x.sell(8, 9));
        due("none", x.laws(NONE), 0);
        for (int cold = 0; cold <= 9; cold++) {
            due("none at " + cold, x.laws(cold), OTHERS);
        }
        x = new TeaJunction();
        yes("a is 5", x.sell(0, 5));
        due("they say the same", x.laws(0), 5);
        due("not the same", x.laws(1), OTHERS);
        x = new TeaJunction();
        yes("a is 0", x.sell(0, 0));
        due("0 is what they say", x.laws(0), 0);
    }

    /** The tenth one counts as the first one does. */
    private static void lawsOfTen() {
        for (int odd = 0; odd < 10; odd++) {
            TeaJunction x = new TeaJunction();
            for (int i = 0; i < 10; i++) {
                yes("sold", i == odd ? x.sell(3, 11) : x.sell(0, 5));
            }
            due("5 + 2 * cold by the one at " + odd, x.laws(NONE), 1);
            due("at 9", x.laws(9), 23);
        }
    }

    private static void whatIsSeen() {
        int[][] taken = {{0, 0}, {900, 0}, {0, 6}, {900, 6}};
        for (int[] n : taken) {
            TeaJunction x = new TeaJunction();
            yes("at " + n[0] + ", " + n[1], x.see(n[0], n[1]));
            due("SEEN", x.count(10), 1);
            due("WAS", x.was(), n[1] == 0 ? 1023 : 0);
        }
        int[][] refused = {{-1, 0}, {901, 0}, {0, -1}, {0, 7}, {901, 7}, {-1, -1}, {900, 7}, {901, 6},
            {Integer.MIN_VALUE, 1}, {Integer.MAX_VALUE, 1}, {5, Integer.MIN_VALUE}, {5, Integer.MAX_VALUE}};
        for (int[] n : refused) {
            TeaJunction x = new TeaJunction();
            no("at " + n[0] + ", " + n[1], x.see(n[0], n[1]));
            due("not SEEN", x.count(10), 0);
            due("any yet", x.was(), 1023);
        }
    }

    private static void sixSeen() {
        TeaJunction x = one(20);
        for (int i = 0; i < 6; i++) {
            due("SEEN", x.count(10), i);
            yes("the same again counts", x.see(20, 1));
        }
        no("a seventh", x.see(20, 1));
        no("a seventh that goes with none", x.see(0, 6));
        due("six are", x.count(10), 6);
        due("as it was", x.was(), 1);
        due("a JUNCTION", Check.junction(x, "stop 60 bell 1;"), 0);
        due("none is SEEN", x.count(10), 0);
        due("any", x.was(), 1023);
        yes("one is", x.see(0, 0));
    }

    /** He is SERVED at that second. */
    private static TeaJunction one(int secs) {
        return allOut("stop 900 bell 900; women 1;" + coach("a", 0) + pie("t", secs) + buyer("p", "plain", "a", "t"));
    }

    private static void was(String what, TeaJunction made, int seconds, int served, int due) {
        yes("see", made.see(seconds, served));
        due(what + " " + served + " at " + seconds, made.was(), due);
    }

    private static void wasByTheSecond() {
        due("nothing is SEEN", one(20).was(), 1023);
        due("of a new one", new TeaJunction().was(), 1023);
        was("SERVED at 20:", one(20), 20, 1, 1);
        was("SERVED at 20:", one(20), 19, 1, 0);
        was("SERVED at 20:", one(20), 19, 0, 1023);
        was("SERVED at 20:", one(20), 20, 0, 1022);
        was("SERVED at 20:", one(20), 0, 0, 1023);
        was("SERVED at 20:", one(20), 0, 1, 0);
        was("SERVED at 20:", one(20), 900, 2, 0);
        was("SERVED at 1:", one(1), 0, 1, 0);
        was("SERVED at 1:", one(1), 1, 1, 1);
        was("SERVED at 60:", one(60), 60, 1, 1);
        was("SERVED at 60:", one(60), 59, 1, 0);
        was("SERVED at 60:", one(60), 119, 1, 1);
        was("SERVED at 60:", one(60), 120, 1, 3);
    }

    private static void wasByTheMinute() {
        for (int late = 0; late <= 9; late++) {
            was("SERVED at 20:", one(20), 20 + 60 * late, 1, (2 << late) - 1);
            was("SERVED at 20:", one(20), 19 + 60 * late, 1, (1 << late) - 1);
            was("SERVED at 20:", one(20), 20 + 60 * late, 0, 1023 & -(2 << late));
            was("SERVED at 20:", one(20), 79 + 60 * late, 1, (2 << late) - 1 & 1023);
        }
        was("SERVED at 20:", one(20), 900, 1, 1023);
        was("SERVED at 20:", one(20), 900, 0, 0);
        for (int late = 0; late <= 9; late++) {
            TeaJunction x = one(20);
            yes("not yet", x.see(19 + 60 * late, 0));
            yes("then", x.see(20 + 60 * late, 1));
            due("it was by " + late, x.was(), 1 << late);
        }
    }

    private static void wasOfMany() {
        StringBuilder s = new StringBuilder("stop 60 bell 50; women 1;" + coach("a", 0) + pie("t", 10));
        for (int i = 0; i < 6; i++) {
            s.append(buyer("b" + "abcdef".charAt(i), "plain", "a", "t"));
        }
        // SERVED at 10, 20, 30, 40, 50; the sixth one goes at 50
        TeaJunction x = allOut(s.toString());
        was("never the sixth:", x, 50, 5, 1);
        TeaJunction y = allOut(s.toString());
        yes("bell 51", y.set(0, 51));
        was("SERVED later, too:", y, 60, 6, 1);
        was("two things SEEN:", y, 59, 5, 1);
        was("three things SEEN:", y, 59, 6, 0);
        // the sixth one decides as the first one does
        for (int odd = 0; odd < 6; odd++) {
            TeaJunction z = allOut(s.toString());
            for (int i = 0; i < 6; i++) {
                yes("see", i == odd ? z.see(130, 1) : z.see(600, 5));
            }
            due("but at 10 to 19 of 130 less 120", z.was(), 1 << 2);
        }
    }

    private static void wasAsNow() {
        TeaJunction x = one(20);
        yes("see", x.see(80, 1));
        due("by 0 and 1", x.was(), 3);
        yes("he is in", x.out(0, false));
        due("nobody is SERVED", x.was(), 0);
        yes("he is out", x.undo());
        yes("urn", x.set(1, 4));
        due("WAY 2: 22", x.was(), 1);
        due("one is SEEN", x.count(10), 1);
    }

    private static TeaJunction drawn(int odds) {
        return Check.at("stop 60 bell 60; women 2; sip 1;" + coach("a", 0) + pie("t", 1, 7)
                + buyer("p", "plain", "a", odds, 0, "t"));
    }

    private static void yearsTaken() {
        TeaJunction x = drawn(10);
        int[][] due = {{0, 1, 1}, {0, 60, 60}, {9999, 1, 1}, {9999, 60, 60}, {-1, 1, NONE}, {10000, 1, NONE},
            {0, 0, NONE}, {0, 61, NONE}, {0, -1, NONE}, {9999, 61, NONE}, {10000, 60, NONE},
            {Integer.MIN_VALUE, 1, NONE}, {Integer.MAX_VALUE, 1, NONE}, {0, Integer.MIN_VALUE, NONE},
            {0, Integer.MAX_VALUE, NONE}};
        for (int[] n : due) {
            String what = "seed " + n[0] + ", days " + n[1];
            due(what + ": pence", x.years(n[0], n[1], 0), n[2] == NONE ? NONE : 7 * n[2]);
            due(what + ": DRUNK", x.years(n[0], n[1], 1), n[2]);
            due(what + ": BEHIND", x.years(n[0], n[1], 2), n[2] == NONE ? NONE : 0);
            due(what + ": what 3", x.years(n[0], n[1], 3), NONE);
            due(what + ": what -1", x.years(n[0], n[1], -1), NONE);
        }
        due("nobody is out", x.count(7), 0);
        due("nobody is told", new TeaJunction().years(0, 60, 0), 0);
    }

    /** By these SEEDS the first DRAW is 0, 1 .. 9. */
    private static void yearsByOdds() {
        int[] seeds = {0, 11, 9, 10, 7, 5, 6, 3, 1, 16};
        for (int drawn = 0; drawn < 10; drawn++) {
            for (int odds = 0; odds <= 10; odds++) {
                due("drawn " + drawn + " by odds " + odds, drawn(odds).years(seeds[drawn], 1, 1), drawn < odds ? 1 : 0);
            }
        }
        // of 60 DRAWS by 0, 9999: below 0, 1 .. 10
        int[] first = {0, 6, 15, 24, 31, 35, 41, 46, 51, 57, 60};
        int[] last = {0, 5, 8, 12, 20, 27, 33, 40, 44, 55, 60};
        for (int odds = 0; odds <= 10; odds++) {
            TeaJunction x = drawn(odds);
            due("seed 0, odds " + odds, x.years(0, 60, 1), first[odds]);
            yes("who is out now does not count", x.out(0, true));
            due("seed 9999, odds " + odds, x.years(9999, 60, 1), last[odds]);
        }
        // 0 8 8 7 8 7 5 1 2 0 1 2 are the first of them by 0
        int[] below3 = {1, 1, 1, 1, 1, 1, 1, 2, 3, 4, 5, 6};
        TeaJunction x = drawn(3);
        for (int days = 1; days <= below3.length; days++) {
            due("seed 0, " + days + " days", x.years(0, days, 1), below3[days - 1]);
        }
    }

    /** Six DRAWS a day, by numbers; the third one is BEHIND whenever he is out. */
    private static void yearsOfSix() {
        TeaJunction x = Check.at("stop 300 bell 300; women 2; sip 1; pace 30;" + coach("a", 0) + coach("f", 200)
                + pie("t", 1, 1) + pie("u", 1, 10) + pie("v", 1, 50) + buyer("ba", "plain", "a", 0, 0, "t")
                + buyer("bb", "plain", "a", 1, 0, "u") + buyer("bc", "plain", "f", 5, 0, "u")
                + buyer("bd", "plain", "a", 9, 0, "v") + buyer("be", "plain", "a", 10, 0, "t u v")
                + buyer("bf", "plain", "a", 3, 0, "t v"));
        // the first day by 0: 0 8 8 7 8 7, by 9999: 1 3 9 4 1 7
        due("seed 0, a day, pence", x.years(0, 1, 0), 111);
        due("seed 0, a day, DRUNK", x.years(0, 1, 1), 4);
        due("seed 0, a day, BEHIND", x.years(0, 1, 2), 0);
        due("seed 9999, a day, pence", x.years(9999, 1, 0), 111);
        due("seed 9999, a day, DRUNK", x.years(9999, 1, 1), 4);
        // out on 0 9 34 56 60 13 of 60 days, and on 0 10 19 57 60 20
        due("seed 0, pence", x.years(0, 60, 0), 9 * 10 + 56 * 50 + 60 * 61 + 13 * 51);
        due("seed 0, DRUNK", x.years(0, 60, 1), 9 + 56 + 60 * 3 + 13 * 2);
        due("seed 0, BEHIND", x.years(0, 60, 2), 34);
        due("seed 9999, pence", x.years(9999, 60, 0), 10 * 10 + 57 * 50 + 60 * 61 + 20 * 51);
        due("seed 9999, DRUNK", x.years(9999, 60, 1), 10 + 57 + 60 * 3 + 20 * 2);
        due("seed 9999, BEHIND", x.years(9999, 60, 2), 19);
    }
}
