/** The bounds of a ROUND: WAY, COMES, GOES, who waits, who is served next, how hot, what is LEFT, who is BEHIND. */
public final class RoundBoundTest extends Told {
    private static final int MAX_INT = Integer.MAX_VALUE;

    private RoundBoundTest() {
    }

    public static void main(String[] args) {
        wayIsCut();
        wayFromBothSides();
        goes();
        goesByTheBell();
        earlyOnes();
        belowWhenHeGoes();
        theLastSecond();
        freeAsServed();
        comeAsSheIsFree();
        twoWomen();
        equalOnes();
        factsOfOrder();
        truth();
        wraps();
        changeOfPounds();
        servedAsHeGoes();
        behind();
        lips();
        coolingIsCut();
        coolsSinceServed();
        pies();
        sipEnds();
        leftBehindIt();
        paid();
        nobody();
        Check.end("RoundBoundTest");
    }

    private static TeaJunction one(String head, int yards) {
        return allOut(head + coach("a", yards) + pie("t", 1) + buyer("p", "plain", "a", "t"));
    }

    /** One BUYER at the urn, who begins at 0. */
    private static TeaJunction drinker(String head, String thing) {
        return allOut(head + coach("a", 0) + thing + buyer("p", "plain", "a", "t"));
    }

    /** By a bell at that second all is DRUNK, by one a second earlier it is not. */
    private static void drunkBy(String what, TeaJunction x, int second, int all) {
        x.set(0, second);
        due(what + ": the bell", x.count(4), second);
        due(what + ": drunk by " + second, x.served(0, 2), all);
        due(what + ": nothing left", x.served(0, 3), 0);
        yes(what + ": a second earlier", x.set(0, second - 1));
        due(what + ": not all", x.served(0, 2) == all ? 1 : 0, 0);
        due(what + ": all the rest left", x.served(0, 2) | x.served(0, 3), all);
    }

    private static void wayIsCut() {
        int[][] due = {{0, 5, 0}, {1, 5, 0}, {2, 5, 1}, {3, 5, 1}, {19, 5, 9}, {199, 5, 99}, {200, 5, 100}, {9, 1, 0},
            {10, 1, 1}, {19, 1, 1}, {20, 1, 2}, {200, 1, 20}, {1, 30, 3}, {199, 30, 597}, {200, 30, 600}, {1, 29, 2},
            {7, 13, 9}};
        for (int[] n : due) {
            due("WAY of " + n[0] + " by " + n[1], one("pace " + n[1] + ";", n[0]).buyer(0, 6), n[2]);
        }
    }

    private static void wayFromBothSides() {
        TeaJunction x = one("pace 10;", 100);
        int[][] due = {{99, 1}, {100, 0}, {101, 1}, {200, 100}, {0, 100}};
        for (int[] n : due) {
            yes("urn", x.set(1, n[0]));
            due("WAY", x.buyer(0, 6), n[1]);
            due("he COMES", x.served(0, 0), n[1]);
        }
    }

    /** The stop less his WAY, 0 at least. */
    private static void goes() {
        int[][] due = {{59, 1, 0}, {60, 0, 0}, {61, 0, 1}, {200, 0, 1}, {30, 30, 0}, {31, 29, 0}};
        for (int[] n : due) {
            TeaJunction x = one("stop 60 bell 60; pace 10;", n[0]);
            due("GOES by " + n[0], x.buyer(0, 7), n[1]);
            // Who comes as he goes is never served; he goes to be back by the stop, if that is not too far.
            due("never served", x.served(0, 0), -1);
            due("nor SERVED", x.served(0, 1), -1);
            due("BEHIND", x.served(0, 4), n[2]);
            due("BEHIND", x.round(3), n[2]);
        }
        due("begins", one("stop 60 bell 60; pace 10;", 29).served(0, 0), 29);
        due("600 of 60", one("stop 60 bell 60; pace 30;", 200).buyer(0, 7), 0);
    }

    private static void goesByTheBell() {
        TeaJunction x = one("stop 100 bell 100; pace 10;", 10);
        due("the stop less his WAY", x.buyer(0, 7), 90);
        int[][] due = {{91, 90}, {90, 90}, {89, 89}, {1, 1}};
        for (int[] n : due) {
            yes("bell", x.set(0, n[0]));
            due("what is earlier", x.buyer(0, 7), n[1]);
        }
    }

    private static void earlyOnes() {
        String text = "stop 100 bell 100; pace 10;" + pie("t", 1) + coach("a", 99) + coach("b", 100) + coach("c", 101);
        TeaJunction x = allOut(text + buyer("p", "early", "a", "t") + buyer("q", "early", "b", "t")
                + buyer("r", "early", "c", "t"));
        due("comes at 0 and goes at 1", x.served(0, 0), 0);
        due("SERVED at 1", x.served(0, 1), 1);
        due("not BEHIND", x.served(0, 4), 0);
        due("goes at 0", x.buyer(1, 7), 0);
        due("never served", x.served(1, 0), -1);
        due("not BEHIND by 100", x.served(1, 4), 0);
        due("goes at 0", x.buyer(2, 7), 0);
        due("never served", x.served(2, 0), -1);
        due("BEHIND by 101", x.served(2, 4), 1);
    }

    /** He waits while t is below when he GOES. */
    private static void belowWhenHeGoes() {
        TeaJunction x = one("stop 100 bell 100; pace 10;", 40);
        yes("bell 41", x.set(0, 41));
        due("at 40", x.served(0, 0), 40);
        due("SERVED", x.round(4), 1);
        yes("bell 40", x.set(0, 40));
        due("never", x.served(0, 0), -1);
        due("SERVED", x.round(4), 0);
        yes("bell 39", x.set(0, 39));
        due("never", x.served(0, 0), -1);
        // 49 there and 49 back of 99, then of 98
        due("at 49", one("stop 99 bell 99; pace 10;", 49).served(0, 0), 49);
        due("at 49, never", one("stop 98 bell 98; pace 10;", 49).served(0, 0), -1);
        yes("bell 1", one("", 0).set(0, 1));
        x = one("stop 60 bell 1;", 0);
        due("at 0", x.served(0, 0), 0);
    }

    /** t from 0 on to the stop: the second ahead of it is the last at which one can begin. */
    private static void theLastSecond() {
        String text = "stop 100 bell 100; women 1;" + coach("a", 0) + pie("t", 60) + pie("u", 39) + pie("v", 40)
                + pie("w", 1);
        TeaJunction x = allOut(text + buyer("p", "plain", "a", "t u") + buyer("q", "plain", "a", "w"));
        due("at 99", x.served(1, 0), 99);
        due("SERVED at 100, as he goes", x.served(1, 1), 100);
        due("LEFT", x.served(1, 3), 8);
        due("not BEHIND", x.served(1, 4), 0);
        x = allOut(text + buyer("p", "plain", "a", "t v") + buyer("q", "plain", "a", "w"));
        due("never", x.served(1, 0), -1);
        due("not SERVED", x.served(1, 1), -1);
        due("nothing DRUNK", x.served(1, 2), 0);
        due("nothing LEFT", x.served(1, 3), 0);
        due("not BEHIND", x.served(1, 4), 0);
        due("one pays", x.round(0), 2);
        x = allOut("stop 900 bell 900; women 1; pace 30;" + coach("a", 14) + coach("b", 15) + pie("t", 1)
                + buyer("p", "early", "a", "t"));
        due("858", x.buyer(0, 7), 858);
    }

    /** She is free as he is SERVED: the next one begins at that second. */
    private static void freeAsServed() {
        TeaJunction x = allOut("women 1;" + coach("a", 0) + pie("t", 7) + buyer("p", "plain", "a", "t")
                + buyer("q", "plain", "a", "t") + buyer("r", "plain", "a", "t"));
        for (int i = 0; i < 3; i++) {
            due("begins", x.served(i, 0), 7 * i);
            due("SERVED", x.served(i, 1), 7 * i + 7);
        }
        yes("bell 14", x.set(0, 14));
        due("not at 14", x.served(2, 0), -1);
        yes("bell 15", x.set(0, 15));
        due("at 14", x.served(2, 0), 14);
    }

    /** Who comes at the very second waits, a second later not. */
    private static void comeAsSheIsFree() {
        for (int yards = 19; yards <= 21; yards++) {
            TeaJunction x = allOut("women 1; pace 10; order 0-far;" + coach("a", 0) + coach("b", 10) + coach("c", yards)
                    + pie("t", 20) + buyer("p", "plain", "a", "t") + buyer("q", "plain", "b", "t")
                    + buyer("r", "plain", "c", "t"));
            due("the farther one, if he has come", x.served(2, 0), yards <= 20 ? 20 : 40);
            due("the nearer one", x.served(1, 0), yards <= 20 ? 40 : 20);
        }
    }

    private static void twoWomen() {
        String text = coach("a", 0) + pie("t", 10) + pie("u", 4) + buyer("p", "plain", "a", "t")
                + buyer("q", "plain", "a", "u") + buyer("r", "plain", "a", "t") + buyer("s", "plain", "a", "u")
                + buyer("v", "plain", "a", "u") + buyer("w", "plain", "a", "u");
        TeaJunction x = allOut("women 2;" + text);
        // p 0..10 and q 0..4, r 4..14; s 10..14; at 14 both are free: v and w
        int[] two = {0, 0, 4, 10, 14, 14};
        for (int i = 0; i < 6; i++) {
            due("of two, begins " + i, x.served(i, 0), two[i]);
        }
        yes("one woman", x.set(2, 1));
        int[] one = {0, 10, 14, 24, 28, 32};
        for (int i = 0; i < 6; i++) {
            due("of one, begins " + i, x.served(i, 0), one[i]);
        }
        due("all six are SERVED", x.round(4), 6);
    }

    /** The least E, of equal ones who came first, then the first. */
    private static void equalOnes() {
        String text = "women 1; pace 10;" + coach("a", 0) + coach("b", 10) + coach("c", 11) + pie("t", 20)
                + buyer("o", "plain", "a", "t") + buyer("p", "plain", "c", "t") + buyer("q", "plain", "b", "t")
                + buyer("r", "plain", "b", "t");
        TeaJunction x = allOut(text);
        due("q came first", x.served(2, 0), 20);
        due("then r", x.served(3, 0), 40);
        due("then p", x.served(1, 0), 60);
        x = allOut(text + "order 11-far;");
        due("p has 0, the others 1", x.served(1, 0), 20);
        x = allOut(text + "order far-12;");
        due("all below 0: q -2", x.served(2, 0), 20);
        due("p -1", x.served(1, 0), 60);
        x = allOut(text + "order 0*far;");
        due("equal: q came first", x.served(2, 0), 20);
        // An early one came at 0, ahead of all that have a WAY; of two at 0 the first.
        x = allOut("women 1;" + coach("a", 0) + coach("b", 200) + pie("t", 20) + buyer("p", "plain", "a", "t")
                + buyer("q", "early", "b", "t"));
        due("the first at 0", x.served(0, 0), 0);
        due("the second at 0", x.served(1, 0), 20);
        x = allOut("women 1;" + coach("a", 0) + coach("b", 200) + pie("t", 20) + buyer("q", "early", "b", "t")
                + buyer("p", "plain", "a", "t"));
        due("the first at 0", x.served(0, 0), 0);
        due("the second at 0", x.served(1, 0), 20);
        // A WAY cut to 0 is one, too.
        x = allOut("women 1;" + coach("a", 1) + coach("b", 2) + pie("t", 20) + buyer("p", "plain", "b", "t")
                + buyer("q", "plain", "a", "t"));
        due("q by 0", x.served(1, 0), 0);
        due("p by 1", x.served(0, 0), 20);
    }

    /** Whether p (the first one) is served ahead of q, by an order; they come at 0, x has her till 20. */
    private static void ahead(String what, String coaches, String p, String q, String order, boolean isAhead) {
        TeaJunction x = allOut("women 1; pace 10; change 0; order " + order + ";" + coach("o", 0) + coaches
                + pie("t", 20) + pie("u", 1) + pie("v", 1) + buyer("x", "plain", "o", "t") + "buyer p " + p + ";buyer q "
                + q + ";");
        yes("x is the first", x.served(0, 0) == 0);
        due(what + ": p by order " + order, x.served(1, 0) == 20 ? 1 : 0, isAhead ? 1 : 0);
        due(what + ": q by order " + order, x.served(2, 0) == 20 ? 1 : 0, isAhead ? 0 : 1);
    }

    private static void factsOfOrder() {
        String rest = " odds 0 dear 0 wants u";
        String coaches = coach("a", 5) + coach("b", 6);
        // far: of x 0 always, so x is ahead of those who have not come
        ahead("far", coaches, "plain coach a" + rest, "plain coach b" + rest, "far", true);
        ahead("far", coaches, "plain coach b" + rest, "plain coach a" + rest, "far", false);
        ahead("far is of an early one, too", coaches, "early coach b" + rest, "plain coach a" + rest, "far", false);
        ahead("far is 6", coaches, "plain coach a" + rest, "plain coach b" + rest, "not (far = 6)", false);
        // At 20 they have waited for 15 and 14; an early one for 20, at 0 for none.
        ahead("waits", coaches, "plain coach a" + rest, "plain coach b" + rest, "waits", false);
        ahead("waits is 15", coaches, "plain coach b" + rest, "plain coach a" + rest, "not (waits = 15)", false);
        ahead("waits is 14", coaches, "plain coach a" + rest, "plain coach b" + rest, "not (waits = 14)", false);
        ahead("an early one waits 20", coaches, "plain coach a" + rest, "early coach b" + rest, "not (waits = 20)",
                false);
        ahead("an early one came at 0, not behind his WAY", coaches, "plain coach a" + rest, "early coach b" + rest,
                "waits = 20", true);
        farIsInYards();
        // exact: 1, of a pound one 0
        ahead("exact", coaches, "plain coach a" + rest, "pound coach a" + rest, "exact*far", false);
        ahead("an early one is exact", coaches, "pound coach a" + rest, "early coach a" + rest, "not exact*far", false);
        // many: 1 to 3
        ahead("many", coaches, "plain coach a" + rest + " v", "plain coach a" + rest, "many*far", false);
        ahead("many is 3", coaches, "plain coach a" + rest, "plain coach a odds 0 dear 0 wants u v t",
                "not (many = 3)*far", false);
    }

    /** Of a pace of 5 the yards 6 and 7 are both a WAY of 3; the urn moves them. */
    private static void farIsInYards() {
        String text = "women 1; pace 5;" + coach("o", 0) + coach("a", 6) + coach("b", 7) + pie("t", 20)
                + buyer("x", "early", "o", "t") + buyer("p", "plain", "a", "t") + buyer("q", "plain", "b", "t");
        TeaJunction x = allOut(text + "order 0 - (far = 7);");
        due("p has a WAY of 3", x.buyer(1, 6), 3);
        due("q has a WAY of 3", x.buyer(2, 6), 3);
        due("q is 7 yards away", x.served(2, 0), 20);
        yes("urn", x.set(1, 13));
        due("p has a WAY of 3", x.buyer(1, 6), 3);
        due("q has a WAY of 3", x.buyer(2, 6), 3);
        due("p is 7 yards away", x.served(1, 0), 20);
    }

    /** Which of an exact one (p, the first) and a pound one (q) is ahead by E: of equal ones it is p. */
    private static void exactAhead(String e, boolean isAhead) {
        String rest = " odds 0 dear 0 wants u";
        ahead("exact and pound", coach("a", 0), "plain coach a" + rest, "pound coach a" + rest,
                "(waits = 20) * (" + e + ")", isAhead);
    }

    /** Of not, and, or, < and = comes 1 or 0; what is not 0 is so; and, or go from the left. */
    private static void truth() {
        exactAhead("exact", false);
        exactAhead("0-exact", true);
        exactAhead("1-exact", true);
        // 7 and exact is 1, not 7; exact*5 or 0 is 1
        exactAhead("(7 and exact) < 2", true);
        exactAhead("(exact*5 or 0) < 2", true);
        exactAhead("0-((exact*5 or 0) = 1)", true);
        exactAhead("(exact*5 or 0) = 1", false);
        exactAhead("(5*exact and 3) = 1", false);
        exactAhead("not (0-exact)", true);
        exactAhead("not not (9*exact)", false);
        // what is below 0 is so, too
        exactAhead("0-not (0-exact)", false);
        exactAhead("(0-exact) and 1", false);
        exactAhead("7 and 0-exact", false);
        exactAhead("(0-exact) and (0-9)", false);
        exactAhead("(0-exact) or 0", false);
        exactAhead("0 or 0-exact", false);
        exactAhead("0-(exact and (0-9))", true);
        exactAhead("1 < exact", true);
        exactAhead("0 < exact", false);
        exactAhead("exact < 1", true);
        exactAhead("exact < 0", true);
        exactAhead("exact = 0", true);
        exactAhead("exact = 1", false);
        exactAhead("0-1 < 0-exact", true);
        // not binds but its PART
        exactAhead("not exact + 1 = 1", false);
        exactAhead("not exact * 0 = 0", true);
        exactAhead("not (exact * 0) = 0", true);
        // From the left: (1 or 1) and not exact, not 1 or (1 and not exact).
        exactAhead("1 or 1 and not exact", true);
        exactAhead("not (1 or 1 and not exact)", false);
        exactAhead("0 and 1 or exact", false);
        exactAhead("2 + 3 * exact = 5", false);
        exactAhead("8 - 3 - exact = 4", false);
        exactAhead("8 - exact - 3 = 4", false);
        exactAhead("2 < 3 - exact", true);
        exactAhead("1 < 2 + exact and 0", true);
    }

    private static void wraps() {
        String max = "9999*9999*21+9999*4790+8416";
        due("21 * 99980001 + 9999 * 4790 + 8416", 21L * 99980001 + 9999 * 4790 + 8416, MAX_INT);
        exactAhead(max + " - exact", true);
        exactAhead(max + " + exact", true);
        exactAhead(max + " - 1 + exact", false);
        exactAhead("0 - (" + max + ") - exact", true);
        exactAhead("0 - (" + max + ") - 1 - exact", false);
        exactAhead("(" + max + " + 1) * exact", true);
        exactAhead("(" + max + ") * 2 + 2 + exact", false);
        exactAhead("(" + max + ") * 2 + 2 = exact", true);
        // 46341 times itself is 2147488281: it wraps below 0; 46340 times itself does not.
        exactAhead("(9999*4+6345)*(9999*4+6345)*exact", true);
        exactAhead("(9999*4+6344)*(9999*4+6344)*exact", false);
        // 65536 times itself is 0
        exactAhead("(8192*8)*(8192*8)*exact", true);
        exactAhead("(8192*8)*(8192*8)*exact+exact", false);
        exactAhead("(8192*8)*(8192*8) < exact", false);
    }

    private static void changeOfPounds() {
        for (int change : new int[] {0, 1, 10, 59, 60}) {
            String text = "change " + change + ";" + coach("a", 0) + pie("t", 5) + pie("u", 60) + pie("v", 60);
            TeaJunction x = allOut(text + buyer("p", "pound", "a", "t") + buyer("q", "plain", "a", "t"));
            due("a pound one", x.served(0, 1), 5 + change);
            due("a plain one", x.served(1, 1), 5);
            x = allOut(text + buyer("p", "pound", "a", "u t v") + buyer("q", "early", "a", "u t v"));
            due("once, however many", x.served(0, 1), 125 + change);
            due("an early one", x.served(1, 1), 125);
        }
    }

    /** SERVED by when he GOES, or earlier; then later. */
    private static void servedAsHeGoes() {
        TeaJunction x = drinker("stop 100 bell 100; sip 1;", pie("t", 20));
        yes("bell 21", x.set(0, 21));
        due("DRUNK", x.served(0, 2), 1);
        yes("bell 20", x.set(0, 20));
        due("SERVED as he goes", x.served(0, 1), x.buyer(0, 7));
        due("it is LEFT", x.served(0, 3), 1);
        yes("bell 19", x.set(0, 19));
        due("SERVED later", x.served(0, 1), 20);
        due("nothing DRUNK", x.served(0, 2), 0);
        due("all is LEFT", x.served(0, 3), 1);
        due("not BEHIND", x.served(0, 4), 0);
        due("LEFT", x.round(2), 1);
        due("he pays", x.round(0), 1);
        due("he is SERVED", x.round(4), 1);
    }

    /** The second he goes and his WAY are more than the stop. */
    private static void behind() {
        // He comes at 20 and goes at 80; SERVED at 80, 81.
        for (int secs = 59; secs <= 61; secs++) {
            TeaJunction x = allOut("stop 100 bell 100; pace 10; sip 1;" + coach("a", 20) + pie("t", 1)
                    + pie("u", secs - 1) + buyer("p", "plain", "a", "t u"));
            due("SERVED", x.served(0, 1), 20 + secs);
            due("what he drinks", x.served(0, 2), secs == 59 ? 1 : 0);
            due("what he leaves", x.served(0, 3), secs == 59 ? 2 : 3);
            due("BEHIND", x.served(0, 4), secs > 60 ? 1 : 0);
            due("BEHIND of the ROUND", x.round(3), secs > 60 ? 1 : 0);
        }
        // The bell at 30: he goes when he is SERVED, at 80 he is not BEHIND, at 81 he is.
        TeaJunction x = allOut("stop 100 bell 30; pace 10;" + coach("a", 20) + pie("t", 60)
                + buyer("p", "plain", "a", "t"));
        due("SERVED", x.served(0, 1), 80);
        due("LEFT", x.served(0, 3), 1);
        due("not BEHIND", x.served(0, 4), 0);
        x = allOut("stop 100 bell 30; pace 10;" + coach("a", 20) + pie("t", 60) + pie("u", 1)
                + buyer("p", "plain", "a", "t u"));
        due("SERVED", x.served(0, 1), 81);
        due("LEFT both", x.served(0, 3), 3);
        due("BEHIND", x.served(0, 4), 1);
        x = allOut("stop 100 bell 30; pace 10; women 2;" + coach("a", 20) + pie("t", 60) + pie("u", 1)
                + buyer("p", "plain", "a", "t u") + buyer("q", "plain", "a", "t u") + buyer("r", "plain", "a", "u"));
        int[] are = {1, 1, 0};
        for (int i = 0; i < 3; i++) {
            due("of three, BEHIND " + i, x.served(i, 4), are[i]);
        }
        due("two are", x.round(3), 2);
        due("SERVED beyond the stop, too", allOut("stop 60 bell 1;" + coach("a", 0) + pie("t", 60) + pie("u", 1)
                + buyer("p", "plain", "a", "t u")).served(0, 1), 61);
    }

    /** No hotter than lips. */
    private static void lips() {
        for (int lips : new int[] {0, 1, 50, 98, 99}) {
            TeaJunction x = drinker("sip 30; lips " + lips + ";", tea("t", 5, lips, 0));
            drunkBy("as hot as lips", x, 35, 1);
            if (lips < 99) {
                x = drinker("sip 30; lips " + lips + ";", tea("t", 5, lips + 1, 0));
                due("hotter, cooling by nothing: never", x.served(0, 3), 1);
                x = drinker("stop 900 bell 900; sip 30; lips " + lips + ";", tea("t", 5, lips + 1, 1));
                drunkBy("a minute later", x, 95, 1);
                x = drinker("stop 900 bell 900; sip 30; lips " + lips + ";",
                        tea("t", 5, lips + 1, 1).replace("tea", "soup"));
                drunkBy("a soup likewise", x, 95, 1);
            }
        }
        // 0 at least: 99 less 20 by 60 seconds is 0 behind 297.
        drunkBy("down to 0", drinker("stop 900 bell 900; sip 30; lips 0;", tea("t", 5, 99, 20)), 332, 1);
        drunkBy("down to 1", drinker("stop 900 bell 900; sip 30; lips 1;", tea("t", 5, 99, 20)), 329, 1);
        // 99 by 1: 99 minutes, beyond any stop
        TeaJunction x = drinker("stop 900 bell 900; lips 0;", tea("t", 5, 99, 1));
        due("never in time", x.served(0, 3), 1);
        // 13 minutes and 45 more seconds, of 900
        drunkBy("at the stop", drinker("stop 900 bell 900; lips 0; sip 115;", tea("t", 5, 13, 1)), 900, 1);
        due("a second too late", drinker("stop 900 bell 900; lips 0; sip 116;", tea("t", 5, 13, 1)).served(0, 3), 1);
    }

    /** Less cools times the seconds by 60, cut: so many whole ones it has cooled by. */
    private static void coolingIsCut() {
        int[][] due = {{1, 1, 60}, {1, 2, 30}, {1, 7, 9}, {2, 7, 18}, {3, 7, 26}, {1, 11, 6}, {2, 11, 11}, {1, 20, 3},
            {1, 19, 4}, {5, 19, 16}, {1, 13, 5}, {40, 13, 185}, {40, 20, 120}};
        for (int[] n : due) {
            TeaJunction x = drinker("stop 900 bell 900; sip 10; lips 50;", tea("t", 1, 50 + n[0], n[1]));
            drunkBy(n[0] + " by " + n[1], x, 1 + n[2] + 10, 1);
        }
    }

    /** One THING behind another, as told; each cools since he was SERVED. */
    private static void coolsSinceServed() {
        String head = "stop 900 bell 900; sip 30; lips 60; change 0;" + coach("a", 0);
        // SERVED at 2; t is cool at 62, drunk at 92; u is cool since 62 as well.
        TeaJunction x = allOut(head + tea("t", 1, 61, 1) + tea("u", 1, 61, 1) + buyer("p", "plain", "a", "t u"));
        drunkBy("both cool together", x, 122, 3);
        // u is cool at 122: it is waited for.
        x = allOut(head + tea("t", 1, 61, 1) + tea("u", 1, 62, 1) + buyer("p", "plain", "a", "t u"));
        drunkBy("the second is waited for", x, 152, 3);
        yes("bell 92", x.set(0, 92));
        due("the first", x.served(0, 2), 1);
        due("the second is LEFT", x.served(0, 3), 2);
        yes("bell 91", x.set(0, 91));
        due("both are LEFT", x.served(0, 3), 3);
        // As told: u first
        x = allOut(head + tea("t", 1, 61, 1) + tea("u", 1, 62, 1) + buyer("p", "plain", "a", "u t"));
        drunkBy("the hotter one first", x, 182, 3);
        yes("bell 152", x.set(0, 152));
        due("the hotter one", x.served(0, 2), 2);
        // u is cool at 92, just as t is drunk; by 5 of cools at 74.
        x = allOut(head + tea("t", 1, 61, 1) + tea("u", 1, 63, 2) + buyer("p", "plain", "a", "t u"));
        drunkBy("cool as the one ahead is drunk", x, 122, 3);
    }

    private static void pies() {
        drunkBy("a pie at once", drinker("sip 30; lips 0;", pie("t", 5).replace("hot 0", "hot 99")), 35, 1);
        TeaJunction x = allOut("stop 900 bell 900; sip 30; lips 60;" + coach("a", 0)
                + pie("t", 1).replace("hot 0", "hot 99") + tea("u", 1, 61, 1) + buyer("p", "plain", "a", "t u"));
        // SERVED at 2, the pie till 32, u is cool at 62
        drunkBy("a pie, then a tea", x, 92, 3);
        x = allOut("stop 900 bell 900; sip 30; lips 60;" + coach("a", 0) + pie("t", 1).replace("hot 0", "hot 99")
                + tea("u", 1, 61, 1) + buyer("p", "plain", "a", "u t"));
        drunkBy("a tea, then a pie", x, 122, 3);
    }

    private static void sipEnds() {
        for (int sip : new int[] {1, 2, 119, 120}) {
            drunkBy("sip " + sip, drinker("sip " + sip + ";", pie("t", 5)), 5 + sip, 1);
        }
        // By the stop less his WAY, too: 20 + 5 + 55 of 80.
        TeaJunction x = allOut("stop 100 bell 100; pace 10; sip 55;" + coach("a", 20) + pie("t", 5)
                + buyer("p", "plain", "a", "t"));
        due("by 80", x.served(0, 2), 1);
        x = allOut("stop 100 bell 100; pace 10; sip 56;" + coach("a", 20) + pie("t", 5)
                + buyer("p", "plain", "a", "t"));
        due("by 81", x.served(0, 3), 1);
        due("but he goes at 80", x.served(0, 4), 0);
    }

    /** What is LEFT is LEFT with all behind it, though that could be drunk. */
    private static void leftBehindIt() {
        TeaJunction x = allOut("sip 30; lips 60;" + coach("a", 0) + tea("t", 1, 99, 0) + pie("u", 1) + pie("v", 1)
                + buyer("p", "plain", "a", "t u v") + buyer("q", "plain", "a", "u t v")
                + buyer("r", "plain", "a", "u v t"));
        due("all", x.served(0, 3), 7);
        due("nothing", x.served(0, 2), 0);
        due("t and v", x.served(1, 3), 5);
        due("u", x.served(1, 2), 2);
        due("t", x.served(2, 3), 1);
        due("u and v", x.served(2, 2), 6);
        due("LEFT", x.round(2), 6);
        due("DRUNK", x.round(1), 3);
    }

    private static void paid() {
        String text = "stop 100 bell 20; women 1; sip 1;" + coach("a", 0)
                + "thing t pie secs 10 price 99 hot 0 cools 0;thing u pie secs 10 price 7 hot 0 cools 0;"
                + buyer("p", "plain", "a", "t") + buyer("q", "plain", "a", "u") + buyer("r", "plain", "a", "t");
        TeaJunction x = allOut(text);
        // p is SERVED at 10, q at 20 as he goes, r never.
        due("two pay", x.round(0), 106);
        yes("bell 21", x.set(0, 21));
        due("r begins at 20: all pay", x.round(0), 205);
        due("r is SERVED later", x.served(2, 3), 1);
        yes("bell 10", x.set(0, 10));
        due("p alone", x.round(0), 99);
        yes("bell 1", x.set(0, 1));
        due("p all the same", x.round(0), 99);
        yes("p in", x.out(0, false));
        due("q", x.round(0), 7);
    }

    private static void nobody() {
        TeaJunction x = Check.at(coach("a", 0) + pie("t", 1) + buyer("p", "plain", "a", "t"));
        for (int what = 0; what < 5; what++) {
            due("round of nobody", x.round(what), 0);
            due("served of one who is in", x.served(0, what), -2);
        }
        yes("out", x.out(0, true));
        int[] due = {0, 1, 1, 0, 0};
        for (int what = 0; what < 5; what++) {
            due("served", x.served(0, what), due[what]);
        }
        yes("in", x.out(0, false));
        due("served of one who is in again", x.served(0, 0), -2);
    }
}
