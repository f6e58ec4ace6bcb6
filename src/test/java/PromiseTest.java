/** Each promise by answers reckoned by hand: ordinary inputs, edges, wrong inputs. */
public final class PromiseTest {
    private static final String COACHES = "coach a yards 0; coach b yards 100;";
    private static final String THINGS = "thing cha tea secs 20 price 3 hot 90 cools 10;"
            + "thing pot soup secs 30 price 5 hot 95 cools 5; thing bun pie secs 5 price 2 hot 0 cools 0;";
    private static final String BUYERS = "buyer ann early coach b odds 5 dear 2 wants bun cha;"
            + "buyer bob plain coach b odds 8 dear 6 wants cha; buyer cis pound coach a odds 2 dear 0 wants pot;";
    private static final String SMALL = "stop 300 bell 240;" + COACHES + THINGS + BUYERS
            + "women 1; lips 70; sip 20;";

    private PromiseTest() {
    }

    public static void main(String[] args) {
        aNewObject();
        feeding();
        junctions();
        daysRead();
        thingsAndBuyers();
        hands();
        undone();
        judging();
        serving();
        goingLate();
        orders();
        chances();
        resting();
        errands();
        tables();
        standAndRing();
        bestHeat();
        trays();
        pouredAhead();
        sold();
        seen();
        years();
        marks();
        marksHold();
        counts();
        Check.end("PromiseTest");
    }

    private static void due(String what, long got, long want) {
        Check.due(what, got, want);
    }

    private static void yes(String what, boolean got) {
        Check.due(what, got, true);
    }

    private static void no(String what, boolean got) {
        Check.due(what, got, false);
    }

    private static TeaJunction small() {
        return Check.at(SMALL);
    }

    private static TeaJunction allOut(String text) {
        TeaJunction x = Check.at(text);
        for (int i = 0; i < x.count(2); i++) {
            yes("out", x.out(i, true));
        }
        return x;
    }

    private static void aNewObject() {
        TeaJunction x = new TeaJunction();
        int[] counts = {0, 0, 0, 600, 540, 0, 2, 0, 0, 0, 0, 0, 0};
        for (int i = 0; i < counts.length; i++) {
            due("new count(" + i + ")", x.count(i), counts[i]);
        }
        due("new NONE", TeaJunction.NONE, -1);
        no("new undo", x.undo());
        no("new mark back", x.mark(0, true));
        due("new judged 0", x.judged(0), -1);
        due("new judged 1", x.judged(1), 0);
        due("new round", x.round(1), 0);
        due("new ring", x.ring(), 1);
        due("new was", x.was(), 1023);
        // What is told in brackets is seen by one who drinks: change, lips, sip, pace, late.
        x = allOut("coach c yards 21; thing t tea secs 10 price 1 hot 62 cools 6;"
                + "buyer p pound coach c odds 0 dear 0 wants t;");
        due("way by pace 5", x.buyer(0, 6), 10);
        due("change 10", x.served(0, 1), 30);
        due("drunk", x.served(0, 2), 1);
        // 30 + 20 seconds to cool to 60 + 30 to drink
        yes("bell 79", x.set(0, 79));
        due("not drunk", x.served(0, 2), 0);
        yes("bell 80", x.set(0, 80));
        due("drunk by 80", x.served(0, 2), 1);
        yes("hot 98", x.heats(0, 98));
        due("never late", x.ahead(0, 0), 0);
    }

    private static void feeding() {
        TeaJunction x = new TeaJunction();
        due("feed abc", x.feed(0x6162630000000000L, 0, 0), 3);
        due("feed none", x.feed(-1, 0x0909097f801fff0bL, 0), 3);
        due("feed edges", x.feed(0x0a207e1f00000000L, 0, 0x21L), 7);
        // "run;" by three parts, the highest byte first
        x = new TeaJunction();
        due("feed r u n;", x.feed(0x72L, 0x75L, 0x6e3bL), 4);
        due("days", x.days(), 0);
        due("a line", x.count(8), 1);
        due("taken", x.count(12), 0);
        for (int i = 1; i <= 41; i++) {
            due("feed 24", x.feed(0x2020202020202020L, 0x2020202020202020L, 0x2020202020202020L), 24 * i);
        }
        due("feed to 1000", x.feed(0x2020202020202020L, 0x2020202020202020L, 0x2020202020202041L), 1000);
        due("beyond 1000", x.feed(0x2020202020202020L, 0, 0), 1000);
        due("the sign beyond was left out", x.junction(), 0);
        due("the tape is taken", x.count(12), 0);
    }

    private static void junctions() {
        TeaJunction x = small();
        due("coaches", x.count(0), 2);
        due("things", x.count(1), 3);
        due("buyers", x.count(2), 3);
        due("stop", x.count(3), 300);
        due("bell", x.count(4), 240);
        due("women", x.count(6), 1);
        yes("out", x.out(1, true));
        yes("urn", x.set(1, 50));
        yes("sell", x.sell(1, 1));
        yes("see", x.see(1, 1));
        yes("mark", x.mark(2, false));
        due("days", Check.days(x, "run;"), 0);
        due("a fault", Check.junction(x, "women 1; women"), 3 + 16 * 9);
        due("all stays: buyers", x.count(2), 3);
        due("all stays: out", x.count(7), 2);
        due("all stays: urn", x.count(5), 50);
        due("all stays: days", x.count(8), 1);
        due("all stays: undo", x.count(11), 2);
        due("the tape is taken", x.count(12), 0);
        due("an empty text", x.junction(), 0);
        int[] counts = {0, 0, 0, 600, 540, 0, 2, 0, 0, 0, 0, 0, 0};
        for (int i = 0; i < counts.length; i++) {
            due("empty junction count(" + i + ")", x.count(i), counts[i]);
        }
        no("no mark is there", x.mark(2, true));
        x = small();
        yes("hot", x.heats(0, 5));
        due("same again", Check.junction(x, SMALL), 0);
        due("how hot as told", x.thing(0, 3), 90);
    }

    private static void daysRead() {
        TeaJunction x = small();
        due("days", Check.days(x, "out ann; in ann; bell 900; urn 200; women 2; hot bun 99; run;"), 0);
        due("lines", x.count(8), 7);
        due("nothing is done by it", x.count(7), 0);
        due("nothing to undo", x.count(11), 0);
        due("fault", Check.days(x, "run; walk;"), 1 + 16 * 5);
        due("stays", x.count(8), 7);
        due("empty", x.days(), 0);
        due("no lines", x.count(8), 0);
    }

    private static void thingsAndBuyers() {
        TeaJunction x = small();
        int[][] things = {{0, 20, 3, 90, 10}, {1, 30, 5, 95, 5}, {2, 5, 2, 0, 0}};
        for (int t = 0; t < 3; t++) {
            for (int w = 0; w < 5; w++) {
                due("thing(" + t + ", " + w + ")", x.thing(t, w), things[t][w]);
            }
        }
        yes("heats", x.heats(1, 44));
        due("hot now", x.thing(1, 3), 44);
        int[][] buyers = {{2, 1, 5, 2, 5, 0, 50, 240}, {0, 1, 8, 6, 1, 0, 50, 240}, {1, 0, 2, 0, 2, 0, 0, 240}};
        for (int b = 0; b < 3; b++) {
            for (int w = 0; w < 8; w++) {
                due("buyer(" + b + ", " + w + ")", x.buyer(b, w), buyers[b][w]);
            }
        }
        due("thing(-1, 0)", x.thing(-1, 0), -1);
        due("thing(3, 0)", x.thing(3, 0), -1);
        due("thing(0, 5)", x.thing(0, 5), -1);
        due("thing(0, -1)", x.thing(0, -1), -1);
        due("buyer(3, 0)", x.buyer(3, 0), -1);
        due("buyer(-1, 0)", x.buyer(-1, 0), -1);
        due("buyer(0, 8)", x.buyer(0, 8), -1);
        due("buyer(0, -1)", x.buyer(0, -1), -1);
        yes("out", x.out(0, true));
        due("out now", x.buyer(0, 5), 1);
        yes("urn", x.set(1, 113));
        due("way now", x.buyer(0, 6), 6);
        due("way behind the urn", x.buyer(2, 6), 56);
        yes("bell", x.set(0, 300));
        due("goes by the stop less the way", x.buyer(0, 7), 294);
        x = Check.at("stop 60 bell 60; coach c yards 200; thing t pie secs 1 price 1 hot 0 cools 0;"
                + "buyer p plain coach c odds 0 dear 0 wants t; pace 30;");
        due("far way", x.buyer(0, 6), 600);
        due("goes, 0 at least", x.buyer(0, 7), 0);
        yes("out", x.out(0, true));
        due("never served", x.served(0, 0), -1);
        due("but behind", x.served(0, 4), 1);
        due("ring none", x.ring(), -1);
    }

    private static void hands() {
        TeaJunction x = small();
        no("in already", x.out(0, false));
        yes("out", x.out(0, true));
        no("out already", x.out(0, true));
        yes("in", x.out(0, false));
        no("out(3)", x.out(3, true));
        no("out(-1)", x.out(-1, true));
        no("out(-1) in", x.out(-1, false));
        no("bell 0", x.set(0, 0));
        yes("bell 1", x.set(0, 1));
        no("bell 1 already", x.set(0, 1));
        yes("bell at the stop", x.set(0, 300));
        no("bell beyond the stop", x.set(0, 301));
        no("urn 0 already", x.set(1, 0));
        no("urn -1", x.set(1, -1));
        yes("urn 200", x.set(1, 200));
        no("urn 201", x.set(1, 201));
        no("women 1 already", x.set(2, 1));
        no("women 0", x.set(2, 0));
        yes("women 2", x.set(2, 2));
        no("women 3", x.set(2, 3));
        no("set(3, 1)", x.set(3, 1));
        no("set(-1, 1)", x.set(-1, 1));
        no("set(4, 1)", x.set(4, 1));
        no("heats as it is", x.heats(0, 90));
        yes("heats 0", x.heats(0, 0));
        yes("heats 99", x.heats(0, 99));
        no("heats 100", x.heats(0, 100));
        no("heats -1", x.heats(0, -1));
        yes("a pie too", x.heats(2, 50));
        no("heats(3, 1)", x.heats(3, 1));
        no("heats(-1, 1)", x.heats(-1, 1));
        due("what changed something", x.count(11), 9);
    }

    private static void undone() {
        TeaJunction x = small();
        yes("out", x.out(2, true));
        yes("bell", x.set(0, 100));
        yes("urn", x.set(1, 30));
        yes("women", x.set(2, 2));
        yes("heats", x.heats(1, 12));
        yes("in", x.out(2, false));
        due("six", x.count(11), 6);
        yes("undo in", x.undo());
        due("out again", x.count(7), 4);
        yes("undo heats", x.undo());
        due("hot", x.thing(1, 3), 95);
        yes("undo women", x.undo());
        due("women", x.count(6), 1);
        yes("undo urn", x.undo());
        due("urn", x.count(5), 0);
        yes("undo bell", x.undo());
        due("bell", x.count(4), 240);
        yes("undo out", x.undo());
        due("nobody", x.count(7), 0);
        no("nothing more", x.undo());
        for (int i = 1; i <= 18; i++) {
            yes("urn " + i, x.set(1, i));
        }
        due("the last 16", x.count(11), 16);
        for (int i = 17; i >= 2; i--) {
            yes("undo", x.undo());
            due("urn", x.count(5), i);
        }
        no("not the 17th", x.undo());
        due("urn stays", x.count(5), 2);
    }

    private static void judging() {
        TeaJunction x = small();
        yes("urn by hand is not asked", x.set(1, 100));
        due("days", Check.days(x, "out bob; run; bell 300; bell 301; run;"), 0);
        // bob comes at 50, is served at 70, drinks from 190 to 210
        due("the bell beyond the stop changes nothing", x.judged(0), 3);
        due("pence", x.judged(1), 6);
        due("drunk", x.judged(2), 2);
        due("days", Check.days(x, "run; out ann;"), 0);
        due("a run by which nothing is drunk", x.judged(0), 0);
        due("days", Check.days(x, "out cis; run; in bob; run;"), 0);
        due("cis can't drink", x.judged(0), 1);
        due("but pays twice", x.judged(1), 10);
        due("days", Check.days(x, "out bob; hot cha 70; urn 100; women 2; bell 40; run; in bob; hot cha 70;"), 0);
        due("the line that heats as it is", x.judged(0), 7);
        due("drunk at once", x.judged(2), 1);
        due("judged(3)", x.judged(3), -2);
        due("judged(-1)", x.judged(-1), -2);
        due("by hand stays", x.count(5), 100);
    }

    private static void serving() {
        TeaJunction x = small();
        due("not out", x.served(0, 0), -2);
        yes("ann", x.out(0, true));
        yes("bob", x.out(1, true));
        yes("cis", x.out(2, true));
        // All by one woman: ann (0, early) 0..25, cis (0, pound) 25..65, bob (50) 65..85.
        int[][] due = {{0, 25, 5, 0, 0}, {65, 85, 1, 0, 0}, {25, 65, 0, 2, 0}};
        for (int b = 0; b < 3; b++) {
            for (int w = 0; w < 5; w++) {
                due("served(" + b + ", " + w + ")", x.served(b, w), due[b][w]);
            }
        }
        int[] sums = {13, 3, 1, 0, 3};
        for (int w = 0; w < 5; w++) {
            due("round(" + w + ")", x.round(w), sums[w]);
        }
        due("round(5)", x.round(5), -1);
        due("round(-1)", x.round(-1), -1);
        due("served(0, 5)", x.served(0, 5), -2);
        due("served(0, -1)", x.served(0, -1), -2);
        due("served(3, 0)", x.served(3, 0), -2);
        due("served(-1, 0)", x.served(-1, 0), -2);
        // bun at once: 25..45, cha is cool at 25 + 120, drunk at 165
        yes("bell 165", x.set(0, 165));
        due("just drunk", x.served(0, 2), 5);
        yes("bell 164", x.set(0, 164));
        due("the bun alone", x.served(0, 2), 4);
        due("the cha is left", x.served(0, 3), 1);
        yes("women 2", x.set(2, 2));
        // ann by the first, cis by the second; bob at 50 by the first who is free since 25
        due("cis by the second", x.served(2, 0), 0);
        due("bob as he comes", x.served(1, 0), 50);
        yes("bell 50", x.set(0, 50));
        due("below when he goes he would wait", x.served(1, 0), -1);
        due("never served leaves nothing", x.served(1, 3), 0);
        due("two served", x.round(4), 2);
        due("two pay", x.round(0), 10);
        yes("bell 51", x.set(0, 51));
        due("bob begins", x.served(1, 0), 50);
        due("but goes when he is served", x.served(1, 3), 1);
    }

    private static void goingLate() {
        String text = "stop 100 bell 100; coach a yards 40; thing t tea secs 25 price 9 hot 10 cools 0;"
                + "thing u pie secs 4 price 1 hot 0 cools 0;"
                + "buyer p plain coach a odds 5 dear 0 wants t u; sip 1; women 1;"
                + "buyer q plain coach a odds 5 dear 0 wants t; buyer r plain coach a odds 5 dear 0 wants u;";
        TeaJunction x = allOut(text);
        // They come at 20 and go at 80: p 20..49, q 49..74, r 74..78.
        due("r", x.served(2, 1), 78);
        due("r is in time", x.served(2, 4), 0);
        due("r drinks", x.served(2, 2), 2);
        yes("bell 77", x.set(0, 77));
        due("served later all is left", x.served(2, 3), 2);
        due("gone at 78 and 20 more", x.served(2, 4), 0);
        x = allOut(text.replace("stop 100 bell 100", "stop 97 bell 97"));
        // They go at 77, r is served at 78: 98 is more than 97.
        due("r is behind", x.served(2, 4), 1);
        due("r pays", x.round(0), 20);
        due("all who are behind", x.round(3), 1);
        x = allOut(text.replace("stop 100 bell 100", "stop 98 bell 98"));
        due("r at 78, as he goes", x.served(2, 1), x.buyer(2, 7));
        due("r has no time to drink", x.served(2, 2), 0);
        due("r is not behind", x.served(2, 4), 0);
        // What cools by nothing is never drunk above lips, nor what stands behind it.
        x = allOut("coach a yards 0; thing t tea secs 1 price 1 hot 61 cools 0; thing u pie secs 1 price 1 hot 99 cools 0;"
                + "buyer p plain coach a odds 0 dear 0 wants t u; buyer q plain coach a odds 0 dear 0 wants u t;");
        due("with all behind it", x.served(0, 3), 3);
        due("what stands ahead", x.served(1, 2), 2);
        yes("as hot as lips", x.heats(0, 60));
        due("at once", x.served(0, 2), 3);
    }

    private static void orders() {
        String text = "coach a yards 10; coach b yards 20; thing t pie secs 9 price 1 hot 0 cools 0;"
                + "thing u pie secs 30 price 1 hot 0 cools 0; women 1; pace 10; change 0;"
                + "buyer o early coach a odds 0 dear 0 wants u;"
                + "buyer p plain coach b odds 0 dear 0 wants t;"
                + "buyer q pound coach a odds 0 dear 0 wants t u;"
                + "buyer r plain coach a odds 0 dear 0 wants t;";
        // o has her till 30; p has come at 20, q and r at 10.
        TeaJunction x = allOut(text);
        due("who came first, then the first: q", x.served(2, 0), 30);
        due("then r", x.served(3, 0), 69);
        due("then p", x.served(1, 0), 78);
        x = allOut(text + "order 0-far;");
        due("the farthest: p", x.served(1, 0), 30);
        due("q", x.served(2, 0), 39);
        due("r", x.served(3, 0), 78);
        x = allOut(text + "order 0-(exact*1000)+many;");
        due("exact: r came first", x.served(3, 0), 30);
        due("p", x.served(1, 0), 39);
        due("q", x.served(2, 0), 48);
        x = allOut(text + "order waits;");
        due("waits least: p", x.served(1, 0), 30);
        x = allOut(text + "order many = 2 or waits < 20 and far = 10;");
        // from the left: (many = 2 or waits < 20) and far = 10: q is 1, p and r are 0, r came first
        due("r", x.served(3, 0), 30);
        due("p", x.served(1, 0), 39);
        due("q", x.served(2, 0), 48);
        // What is so is 1 and nothing else: r is ahead of q, who would be the first of equal ones.
        for (String one : new String[] {"exact and 7", "0 or exact", "exact*3 = 3", "0 < exact", "not (many-1)"}) {
            x = allOut(text + "order 0-((" + one + ") = 1);");
            due(one + ": r", x.served(3, 0), 30);
            due(one + ": p", x.served(1, 0), 39);
        }
        // As much as can wait for its right side: four values at each of five depths.
        String deep = "0 or 1 < 0 + 1 * many";
        for (int i = 0; i < 4; i++) {
            deep = "0 or 0 < 0 + 1 * (" + deep + ")";
        }
        x = allOut(text + "order " + deep + ";");
        due("deep: who wants two is served last", x.served(2, 0), 48);
        x = allOut(text + "order " + deep.replace("1 < 0 + 1 * many", "1 < 0 + 3 - many * 1") + ";");
        due("deep: who wants two is served first", x.served(2, 0), 30);
        x = allOut(text + "order 9999*9999*43*many;");
        // 4299140043 wraps to 4172747, twice as much to 8345494
        due("wraps: r", x.served(3, 0), 30);
        x = allOut(text + "order 9999*9999*22*many;");
        // 2199560022 wraps below 0 for one, 4399120044 to 104152748 for two: r, p, q
        due("wraps below 0: r", x.served(3, 0), 30);
        due("q at last", x.served(2, 0), 48);
    }

    private static void chances() {
        String text = "stop 60 bell 60; coach a yards 0; thing t pie secs 20 price 1 hot 0 cools 0; sip 20; women 1;"
                + "buyer p plain coach a odds 5 dear 0 wants t; buyer q plain coach a odds 3 dear 0 wants t;"
                + "buyer r plain coach a odds 7 dear 0 wants t;";
        TeaJunction x = Check.at(text);
        // The third one is served at 60 only.
        due("chance(0)", x.chance(0), 1000000);
        due("chance(1)", x.chance(1), 1000000);
        due("chance(2), not both are ahead", x.chance(2), 850000);
        yes("who is out is not asked", x.out(0, true));
        due("chance(2)", x.chance(2), 850000);
        yes("bell 59", x.set(0, 59));
        due("chance(1), nobody ahead", x.chance(1), 500000);
        due("chance(2), nobody ahead", x.chance(2), 350000);
        due("chance(3)", x.chance(3), -1);
        due("chance(-1)", x.chance(-1), -1);
    }

    private static void resting() {
        // One woman, time for two: a third would be served as he goes, and never drink.
        String text = "stop 60 bell 60; coach a yards 0; thing t pie secs 20 price 1 hot 0 cools 0; sip 20; women 1;"
                + "buyer p plain coach a odds 5 dear 0 wants t; buyer q plain coach a odds 3 dear 0 wants t;"
                + "buyer r plain coach a odds 7 dear 0 wants t;";
        TeaJunction x = Check.at(text);
        due("p, q, r: one choice", Check.rests(x, 7, -1), 1);
        due("p and q", Check.rests(x, 7, 0), 3);
        due("none such", Check.rests(x, 7, 1), Check.THREW);
        due("r alone", Check.rests(x, 4, 0), 4);
        yes("p out", x.out(0, true));
        yes("q out", x.out(1, true));
        due("r alone, others as they are", Check.rests(x, 4, 0), 0);
        due("nobody", Check.rests(x, 0, -1), Check.THREW);
        due("others", Check.rests(x, 8, -1), Check.THREW);
        due("below", Check.rests(x, -1, -1), Check.THREW);
        due("what -2", Check.rests(x, 1, -2), Check.THREW);
        due("who is out stays", x.count(7), 3);
        // Two who are both served in time alone, but behind when the other one is out, too.
        String two = "stop 100 bell 100; coach a yards 0; coach b yards 20; thing t pie secs 40 price 1 hot 0 cools 0;"
                + "thing u pie secs 50 price 1 hot 0 cools 0; sip 1; women 1;"
                + "buyer p plain coach b odds 5 dear 0 wants t u; buyer q plain coach b odds 5 dear 0 wants t u; pace 2;"
                + "order 1;";
        x = Check.at(two);
        due("they come at 4 and go at 96, served at 94, the second one at 184", x.buyer(0, 7), 96);
        due("p alone rests", Check.rests(x, 3, -1), 1);
        due("p alone", Check.rests(x, 3, 0), 1);
        // The one who would pay 3 for nothing stays in, one who has 10 gets out; of five buyers at most four.
        StringBuilder five = new StringBuilder("coach a yards 0; thing t pie secs 1 price 1 hot 0 cools 0;");
        for (int i = 0; i < 5; i++) {
            five.append("buyer p").append((char) ('a' + i)).append(" plain coach a odds 5 dear 0 wants t;");
        }
        x = Check.at(five.toString());
        due("four", Check.rests(x, 30, 0), 30);
        due("five", Check.rests(x, 31, -1), Check.THREW);
    }

    private static void errands() {
        TeaJunction x = small();
        // For ann and bob: ann (early) at 0 for bun cha cha 45 seconds; bob at 50, 95; both go at 240.
        due("both can", x.errand(3, 0), 3);
        due("ann", x.errand(3, 1), 0);
        due("at 45", x.errand(3, 2), 45);
        due("bob alone", x.errand(2, 2), 70);
        yes("cis out", x.out(2, true));
        // cis comes at 0, too, but is behind ann; bob waits for nobody at 50: 50 + 45
        due("ann still", x.errand(3, 2), 45);
        due("bob waits not", x.errand(2, 2), 70);
        yes("bell 45", x.set(0, 45));
        due("ann by 45", x.errand(3, 0), 1);
        yes("bell 44", x.set(0, 44));
        due("nobody", x.errand(3, 0), 0);
        due("who: none", x.errand(3, 1), -1);
        due("when: none", x.errand(3, 2), -1);
        due("nobody asked", x.errand(0, 0), -1);
        due("others", x.errand(8, 0), -1);
        due("below", x.errand(-1, 0), -1);
        due("what 3", x.errand(3, 3), -1);
        due("what -1", x.errand(3, -1), -1);
        // Of equal ones the first; many counts again and again.
        x = Check.at("coach a yards 0; thing t pie secs 7 price 1 hot 0 cools 0; women 1; order many;"
                + "buyer p plain coach a odds 5 dear 0 wants t; buyer q plain coach a odds 5 dear 0 wants t;"
                + "buyer r plain coach a odds 5 dear 0 wants t;");
        due("all can", x.errand(7, 0), 7);
        due("the first", x.errand(7, 1), 0);
        due("three at once", x.errand(7, 2), 21);
        yes("r out", x.out(2, true));
        due("r, who wants less, is served ahead", x.errand(3, 2), 21);
    }

    private static void tables() {
        String text = "stop 100 bell 100; coach a yards 0; coach b yards 20; women 1; sip 10; change 30; lips 0; pace 10;"
                + "thing t pie secs 30 price 1 hot 0 cools 0; thing u pie secs 1 price 1 hot 0 cools 0;"
                + "buyer p pound coach a odds 0 dear 0 wants t; buyer q plain coach b odds 0 dear 0 wants u t;"
                + "buyer r early coach b odds 0 dear 0 wants t u; order 0-many;";
        TeaJunction x = allOut(text);
        // q and r go at 80. By order: r 0..31 drinks 41, 51; q 31..62 drinks 72, the next by 82 not;
        // p 62..122 too late. By coming: p 0..60, r 60..91 too late, all left. By exact: r, q, p.
        due("1, order", x.table(1, 0), 3);
        due("1, who came first", x.table(1, 1), 1);
        due("1, exact ones", x.table(1, 2), 3);
        // Two women: order: r 0..31 and p 0..60; q 31..62: 2 + 1 + 1
        due("2, order", x.table(2, 0), 4);
        due("2, who came first", x.table(2, 1), 4);
        due("2, exact", x.table(2, 2), 4);
        due("women 0", x.table(0, 0), -1);
        due("women 3", x.table(3, 0), -1);
        due("rule -1", x.table(1, -1), -1);
        due("rule 3", x.table(1, 3), -1);
        due("women stay", x.count(6), 1);
    }

    private static void standAndRing() {
        String text = "stop 60 bell 60; coach a yards 95; thing t pie secs 5 price 1 hot 0 cools 0; sip 10;"
                + "buyer p plain coach a odds 0 dear 0 wants t; pace 10;";
        TeaJunction x = allOut(text);
        // way w: served at w + 5, drunk at w + 15 by 60 - w: w is 22 at most; 80 yards are the first by tens
        due("stand", x.stand(), 80);
        due("the urn stays", x.count(5), 0);
        yes("urn", x.set(1, 100));
        // way 5: comes 5, served 10, drunk 20
        due("ring", x.ring(), 20);
        due("the bell stays", x.count(4), 60);
        yes("urn 60", x.set(1, 60));
        // way 35: comes at 35, goes at 25: never served, not behind
        due("ring by nobody's drink", x.ring(), 1);
        due("stand again", x.stand(), 80);
        x = allOut(text.replace("secs 5", "secs 40"));
        yes("urn 90", x.set(1, 90));
        // way 5: served at 45, drunk at 55, as he goes at 55
        due("ring 55", x.ring(), 55);
        x = allOut(text.replace("secs 5", "secs 60"));
        yes("urn 90", x.set(1, 90));
        // He begins at 5 if the bell is later, and is behind then.
        due("ring so that he is not served", x.ring(), 1);
        x = allOut("stop 60 bell 60; coach a yards 200; thing t pie secs 40 price 1 hot 0 cools 0; sip 20;"
                + "buyer p plain coach a odds 0 dear 0 wants t; pace 30;");
        due("nowhere but at 200", x.stand(), 200);
        yes("urn", x.set(1, 200));
        due("at the stop alone", x.ring(), 60);
    }

    private static void bestHeat() {
        TeaJunction x = small();
        yes("bob", x.out(1, true));
        // bob is served at 70, goes at 240: cool by 150 seconds more, 25 above lips
        due("the most is drunk by the least", x.best(0, false), 0);
        // 96: 26 * 6 = 156 seconds
        due("left from 96 on", x.best(0, true), 96);
        yes("heats 95", x.heats(0, 95));
        due("95 is drunk", x.round(1), 1);
        yes("heats 96", x.heats(0, 96));
        due("96 is left", x.round(1), 0);
        due("not asked for by anybody out", x.best(1, true), 0);
        due("a pie", x.best(2, false), -1);
        due("best(3)", x.best(3, false), -1);
        due("best(-1)", x.best(-1, true), -1);
        due("hot stays", x.thing(0, 3), 96);
        // Half of 1 is nothing: all the same.
        x = Check.at(SMALL.replace("price 3", "price 1"));
        yes("bob", x.out(1, true));
        due("nothing by halves", x.best(0, true), 0);
    }

    private static void trays() {
        TeaJunction x = small();
        due("tray(36, 0)", x.tray(36, 0), 13);
        due("tray(4, 0)", x.tray(4, 0), 13);
        due("cis has none left", x.tray(3, 0), 8);
        due("ann can't have two of one, bob can", x.tray(1, 0), 3);
        due("tray(0, 0)", x.tray(0, 0), 0);
        due("ann pays 2 dearer, cis not", x.tray(4, 2), 14);
        due("ann not 3", x.tray(4, 3), 6);
        due("bob 6", x.tray(4, 6), 9);
        due("nobody 7", x.tray(4, 7), 0);
        due("tray(-1, 0)", x.tray(-1, 0), -1);
        due("tray(37, 0)", x.tray(37, 0), -1);
        due("tray(0, -1)", x.tray(0, -1), -1);
        due("tray(0, 100)", x.tray(0, 100), -1);
        due("tray(0, 99)", x.tray(0, 99), 0);
        due("price(4)", x.price(4), 2);
        due("price(1)", x.price(1), 6);
        due("price(0)", x.price(0), 0);
        due("price(36)", x.price(36), 2);
        due("price(37)", x.price(37), -1);
        due("price(-1)", x.price(-1), -1);
        x = Check.at(SMALL.replace("dear 6", "dear 99"));
        due("price 99", x.price(36), 99);
    }

    private static void pouredAhead() {
        TeaJunction x = small();
        yes("bob", x.out(1, true));
        due("fresh", x.ahead(0, 0), 1000);
        due("had by bob", x.ahead(0, 1), 1000);
        due("one nobody had", x.ahead(0, 2), 0);
        due("twelve", x.ahead(0, 12), -10000);
        due("thirteen", x.ahead(0, 13), -1);
        due("-1", x.ahead(0, -1), -1);
        due("a pie", x.ahead(2, 0), -1);
        due("ahead(3)", x.ahead(3, 0), -1);
        due("ahead(-1)", x.ahead(-1, 0), -1);
        due("most", x.most(0), 0);
        due("most of a pie", x.most(2), -1);
        due("most(3)", x.most(3), -1);
        due("most(-1)", x.most(-1), -1);
        // Fresh: served at 70, cool at 190, drunk at 210. Ahead: served at 51, cool at 120, drunk at 140.
        yes("bell 209", x.set(0, 209));
        due("fresh is left", x.ahead(0, 0), 0);
        due("ahead is drunk", x.ahead(0, 1), 1000);
        due("most 1", x.most(0), 1);
        yes("bell 140", x.set(0, 140));
        due("ahead by 140", x.ahead(0, 1), 1000);
        yes("bell 139", x.set(0, 139));
        due("ahead by 139", x.ahead(0, 1), 0);
        // Late by a minute in 4 of 10, by two in 3, by three in 2: then it has cooled meanwhile.
        x = Check.at(SMALL + "late 1 4 3 2;");
        yes("bob", x.out(1, true));
        yes("bell 71", x.set(0, 71));
        // served at 51: late by a minute 111 seconds: 72 hot, by 120 at 60 it is 70, drunk at 80; by two at once, 71.
        due("5 of 10", x.ahead(0, 1), 500);
        yes("bell 80", x.set(0, 80));
        due("9 of 10", x.ahead(0, 1), 900);
        yes("hot 71", x.heats(0, 71));
        yes("bell 240", x.set(0, 240));
        due("all", x.ahead(0, 1), 1000);
        // Below 20 it alone is left: by cools 20, poured at 71, late by three 231 seconds: 71 - 77.
        x = Check.at(SMALL.replace("cools 10", "cools 20") + "late 0 0 0 10;");
        yes("ann", x.out(0, true));
        yes("heats 80", x.heats(0, 80));
        due("drunk both when fresh", x.ahead(0, 0), 2000);
        // ann: served at 6, the bun till 26, the cha 206 seconds old: 80 - 68 = 12
        due("the cha is too cold", x.ahead(0, 1), 1000);
        yes("heats 88", x.heats(0, 88));
        due("88 - 68 is not below 20", x.ahead(0, 1), 2000);
        yes("heats 87", x.heats(0, 87));
        due("87 - 68 is", x.ahead(0, 1), 1000);
        x = Check.at(SMALL.replace("cools 10", "cools 20").replace("wants bun cha", "wants cha bun") + "late 0 0 0 10;");
        yes("ann", x.out(0, true));
        yes("heats 30", x.heats(0, 30));
        due("the bun behind it is drunk", x.ahead(0, 1), 1000);
        // Below 20 only because lips are: the bun behind it waits for that second, 60, all the same.
        x = Check.at(SMALL.replace("cools 10", "cools 20").replace("wants bun cha", "wants cha bun")
                .replace("lips 70", "lips 10"));
        yes("ann", x.out(0, true));
        yes("heats 30", x.heats(0, 30));
        yes("bell 80", x.set(0, 80));
        due("the bun from 60 to 80", x.ahead(0, 1), 1000);
        yes("bell 79", x.set(0, 79));
        due("not by 79", x.ahead(0, 1), 0);
        // In the order in which they are served: ann has the one, bob has his fresh.
        x = Check.at(SMALL + "late 10 0 0 0;");
        yes("ann", x.out(0, true));
        yes("bob", x.out(1, true));
        due("both have theirs", x.ahead(0, 2), 3000);
        due("one for ann", x.ahead(0, 1), 3000);
        due("of soup nobody has any", x.ahead(1, 1), 2000);
    }

    private static void sold() {
        TeaJunction x = new TeaJunction();
        due("laws(-1)", x.laws(-1), 100);
        due("laws(0)", x.laws(0), -2);
        yes("sell(0, 4)", x.sell(0, 4));
        due("ten laws", x.laws(-1), 10);
        due("they say the same at 0", x.laws(0), 4);
        due("not at 1", x.laws(1), -2);
        yes("sell(3, 10)", x.sell(3, 10));
        due("one law", x.laws(-1), 1);
        due("laws(9)", x.laws(9), 22);
        due("laws(10)", x.laws(10), -2);
        due("laws(-2)", x.laws(-2), -2);
        no("cold 10", x.sell(10, 0));
        no("cold -1", x.sell(-1, 0));
        no("many 100", x.sell(0, 100));
        no("many -1", x.sell(0, -1));
        yes("cold 9, many 99", x.sell(9, 99));
        due("none", x.laws(-1), 0);
        due("none says", x.laws(0), -2);
        for (int i = 3; i < 10; i++) {
            yes("sell", x.sell(9, 0));
        }
        no("the eleventh", x.sell(9, 0));
        due("ten", x.count(9), 10);
    }

    private static void seen() {
        TeaJunction x = small();
        yes("ann", x.out(0, true));
        yes("bob", x.out(1, true));
        // ann is served at 25, bob at 70.
        yes("see(144, 1)", x.see(144, 1));
        // late by 2 minutes: 24, nobody; by 1: 84, both; by 0: both
        due("by none", x.was(), 0);
        x = small();
        yes("ann", x.out(0, true));
        yes("bob", x.out(1, true));
        yes("see(145, 1)", x.see(145, 1));
        due("by two: 25", x.was(), 4);
        x = small();
        yes("ann", x.out(0, true));
        yes("bob", x.out(1, true));
        yes("see(189, 1)", x.see(189, 1));
        due("by two: 69", x.was(), 4);
        yes("see(190, 2)", x.see(190, 2));
        due("by two: 70", x.was(), 4);
        yes("see(84, 0)", x.see(84, 0));
        due("by one or two was nobody at 24", x.was(), 4);
        yes("see(0, 0)", x.see(0, 0));
        due("those out as now", x.was(), 4);
        yes("ann in", x.out(0, false));
        due("not by bob alone", x.was(), 0);
        no("seconds 901", x.see(901, 0));
        no("seconds -1", x.see(-1, 0));
        no("served 7", x.see(0, 7));
        no("served -1", x.see(0, -1));
        yes("see(900, 6)", x.see(900, 6));
        yes("the sixth", x.see(1, 1));
        no("the seventh", x.see(1, 1));
        due("six", x.count(10), 6);
        x = small();
        due("all minutes", x.was(), 1023);
        yes("see(565, 0)", x.see(565, 0));
        yes("ann", x.out(0, true));
        // Late by 9 minutes: 25; she was served.
        due("all but nine are no, none", x.was(), 0);
        x = small();
        yes("ann", x.out(0, true));
        yes("see(564, 0)", x.see(564, 0));
        due("by nine", x.was(), 512);
    }

    private static void years() {
        // Seed 0: 12345 / 65536 is 0; then 1406932606 / 65536 is 21468; then 654583775 is 9988;
        // then 1449466924 is 22117.
        String text = "coach a yards 0; thing t pie secs 1 price 7 hot 0 cools 0;"
                + "buyer p plain coach a odds 1 dear 0 wants t; buyer q plain coach a odds 8 dear 0 wants t;";
        TeaJunction x = Check.at(text);
        // 0 below 1, 8 not below 8
        due("one day, pence", x.years(0, 1, 0), 7);
        due("one day, drunk", x.years(0, 1, 1), 1);
        due("one day, behind", x.years(0, 1, 2), 0);
        // 8 not below 1, 7 below 8
        due("two days", x.years(0, 2, 0), 14);
        x = Check.at(text.replace("odds 8", "odds 7"));
        due("7 is not below 7", x.years(0, 2, 1), 1);
        due("by hand is not asked", x.count(7), 0);
        due("seed -1", x.years(-1, 1, 0), -1);
        due("seed 10000", x.years(10000, 1, 0), -1);
        due("days 0", x.years(0, 0, 0), -1);
        due("days 61", x.years(0, 61, 0), -1);
        due("what 3", x.years(0, 1, 3), -1);
        due("what -1", x.years(0, 1, -1), -1);
        x = Check.at("coach a yards 200; pace 30; thing t pie secs 1 price 7 hot 0 cools 0; stop 60 bell 60;"
                + "buyer p plain coach a odds 10 dear 0 wants t;");
        due("always behind", x.years(9999, 60, 2), 60);
    }

    private static void marks() {
        TeaJunction x = small();
        due("days", Check.days(x, "run; run;"), 0);
        yes("out", x.out(1, true));
        yes("bell", x.set(0, 77));
        yes("urn", x.set(1, 9));
        yes("women", x.set(2, 2));
        yes("heats", x.heats(0, 33));
        yes("sell", x.sell(1, 5));
        yes("see", x.see(600, 1));
        int was = x.was();
        int laws = x.laws(-1);
        yes("mark 3", x.mark(3, false));
        due("undo stays when a mark is laid", x.count(11), 5);
        due("days", Check.days(x, "run;"), 0);
        yes("in", x.out(1, false));
        yes("bell", x.set(0, 78));
        yes("urn", x.set(1, 10));
        yes("women", x.set(2, 1));
        yes("heats", x.heats(0, 34));
        yes("sell", x.sell(1, 6));
        yes("see", x.see(601, 0));
        yes("mark 0", x.mark(0, false));
        yes("back to 3", x.mark(3, true));
        int[] counts = {2, 3, 3, 300, 77, 9, 2, 2, 2, 1, 1, 0, 0};
        for (int i = 0; i < counts.length; i++) {
            due("back count(" + i + ")", x.count(i), counts[i]);
        }
        due("hot", x.thing(0, 3), 33);
        due("was", x.was(), was);
        due("laws", x.laws(-1), laws);
        no("nothing can be undone", x.undo());
        yes("a mark stays", x.mark(3, true));
        yes("the other one", x.mark(0, true));
        due("urn", x.count(5), 10);
        due("lines", x.count(8), 1);
        due("sold", x.count(9), 2);
        due("seen", x.count(10), 2);
        yes("laid again", x.mark(3, false));
        yes("back", x.mark(3, true));
        due("urn", x.count(5), 10);
        no("mark 1", x.mark(1, true));
        no("mark 4", x.mark(4, false));
        no("mark -1", x.mark(-1, false));
        no("mark 4 back", x.mark(4, true));
        no("mark -1 back", x.mark(-1, true));
    }

    private static void marksHold() {
        TeaJunction x = small();
        yes("ann", x.out(0, true));
        yes("mark 0, nothing sold or seen", x.mark(0, false));
        yes("sell(0, 4)", x.sell(0, 4));
        yes("see(564, 0)", x.see(564, 0));
        yes("mark 1", x.mark(1, false));
        yes("back to 0", x.mark(0, true));
        due("nothing sold", x.laws(-1), 100);
        due("nothing seen", x.was(), 1023);
        yes("sell(0, 5)", x.sell(0, 5));
        yes("see(564, 1)", x.see(564, 1));
        due("5", x.laws(0), 5);
        due("all but nine", x.was(), 511);
        yes("back to 1", x.mark(1, true));
        due("4 again", x.laws(0), 4);
        due("nine again", x.was(), 512);
        due("days", Check.days(x, "out bob; run;"), 0);
        yes("mark 2", x.mark(2, false));
        due("days", Check.days(x, "run; run; run;"), 0);
        due("idle", x.judged(0), 0);
        yes("back to 2", x.mark(2, true));
        due("the days of the mark", x.judged(2), 1);
        due("and how many", x.count(8), 2);
    }

    private static void counts() {
        TeaJunction x = small();
        due("count(-1)", x.count(-1), -1);
        due("count(13)", x.count(13), -1);
        yes("out", x.out(0, true));
        yes("out", x.out(2, true));
        due("who is out as bits", x.count(7), 5);
        due("what can be undone", x.count(11), 2);
        Check.feed(x, "run;  ");
        due("signs", x.count(12), 6);
    }
}
