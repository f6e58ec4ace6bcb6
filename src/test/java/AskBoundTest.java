/** The bounds of what is asked: CHANCE, RESTS, ERRAND, TABLE, STAND, RING, BEST, TRAY, PRICE, AHEAD, MOST. */
public final class AskBoundTest extends Told {
    private static final int NONE = -1;

    private AskBoundTest() {
    }

    public static void main(String[] args) {
        chanceOfOneOther();
        chanceOfFiveOthers();
        chanceWantsAll();
        chanceByHand();
        restsOfOneToFour();
        restsWithOthers();
        errandByWhenHeGoes();
        errandOfThree();
        errandByTheStop();
        errandOfPounds();
        errandWithOthers();
        errandOfAll();
        errandCountsAll();
        tables();
        tableOfEqualOnes();
        standAtBothEnds();
        standByTens();
        standOfEqualOnes();
        rings();
        ringWithoutAnyoneBehind();
        ringByNone();
        bestByPence();
        bestByHalfThePrice();
        bestOfEqualOnes();
        traysByHowMany();
        traysByWhoWouldPay();
        prices();
        aheadOfNobody();
        aheadTakesOneSecond();
        aheadTooHot();
        aheadTooCold();
        aheadItAlone();
        aheadInOrder();
        aheadOfTwo();
        aheadByOdds();
        mosts();
        Check.end("AskBoundTest");
    }

    /** Each wants a pie of 20 seconds: of one woman only the first one has drunk it by 59. */
    private static String queue(int... odds) {
        StringBuilder s = new StringBuilder("stop 60 bell 59; women 1; sip 20;" + coach("a", 0) + pie("t", 20));
        for (int i = 0; i < odds.length; i++) {
            s.append(buyer("b" + "abcdef".charAt(i), "plain", "a", odds[i], 0, "t"));
        }
        return s.toString();
    }

    private static void chanceOfOneOther() {
        int[][] due = {{0, 1000000}, {1, 900000}, {5, 500000}, {9, 100000}, {10, 0}};
        for (int[] n : due) {
            TeaJunction x = Check.at(queue(n[0], 10));
            due("by odds " + n[0], x.chance(1), n[1]);
            due("nobody is ahead of the first", x.chance(0), 1000000);
            yes("who is out now does not count", x.out(0, true));
            due("by odds " + n[0], x.chance(1), n[1]);
            yes("bell 60", x.set(0, 60));
            due("the second has drunk it by 60", x.chance(1), 1000000);
            due("nobody else is out", x.count(7), 1);
        }
        due("his own odds do not count", Check.at(queue(10, 0)).chance(1), 0);
        due("his own odds do not count", Check.at(queue(0, 0)).chance(1), 1000000);
        due("nobody else is told", Check.at(queue(0)).chance(0), 1000000);
    }

    private static void chanceOfFiveOthers() {
        due("a tenth of each", Check.at(queue(9, 9, 9, 9, 9, 0)).chance(5), 10);
        due("nine tenths of each", Check.at(queue(1, 1, 1, 1, 1, 0)).chance(5), 590490);
        due(".9 .8 .7 .6 .5", Check.at(queue(1, 2, 3, 4, 5, 0)).chance(5), 151200);
        due("one of them is out for certain", Check.at(queue(1, 1, 1, 1, 10, 0)).chance(5), 0);
        due("none of them", Check.at(queue(0, 0, 0, 0, 0, 10)).chance(5), 1000000);
        TeaJunction x = Check.at(queue(9, 9, 9, 9, 9, 9));
        int[] due = {1000000, 100000, 10000, 1000, 100, 10};
        for (int i = 0; i < 6; i++) {
            due("of six, " + i, x.chance(i), due[i]);
        }
        due("a seventh", x.chance(6), NONE);
    }

    private static void chanceWantsAll() {
        // SERVED at 21, 41 and 61 when the second, third one ends
        String text = "stop 100 bell 100; women 1; sip 20;" + coach("a", 0) + pie("t", 7) + pie("u", 7) + pie("v", 7)
                + buyer("p", "plain", "a", "t u v");
        TeaJunction x = Check.at(text);
        yes("bell 81", x.set(0, 81));
        due("all three by 81", x.chance(0), 1000000);
        yes("bell 80", x.set(0, 80));
        due("but two by 80", x.chance(0), 0);
        String far = "stop 60 bell 60; pace 10; sip 1;" + pie("t", 1) + coach("a", 29) + buyer("p", "plain", "a", "t");
        due("29 there, 31 when he goes", Check.at(far).chance(0), 1000000);
        due("30 there and 30 back", Check.at(far.replace("29", "30")).chance(0), 0);
    }

    private static void chanceByHand() {
        TeaJunction x = Check.at(queue(5, 5, 0));
        due("nobody ahead", x.chance(2), 250000);
        yes("two women", x.set(2, 2));
        due("not both ahead", x.chance(2), 750000);
        yes("bell 39", x.set(0, 39));
        due("20 to serve and 20 to drink", x.chance(2), 0);
        yes("bell 40", x.set(0, 40));
        due("by 40", x.chance(2), 750000);
        yes("urn", x.set(1, 1));
        due("WAY 0 yet", x.chance(2), 750000);
        yes("urn", x.set(1, 2));
        due("WAY 1: by 41", x.chance(2), 0);
    }

    private static void rest(String what, TeaJunction x, int buyers, int due) {
        due(what + ": how many", Check.rests(x, buyers, NONE), 1);
        due(what + ": the first", Check.rests(x, buyers, 0), due);
        due(what + ": no second", Check.rests(x, buyers, 1), Check.THREW);
        due(what + ": below NONE", Check.rests(x, buyers, -2), Check.THREW);
    }

    private static void restsOfOneToFour() {
        TeaJunction x = Check.at(queue(0, 0, 0, 0, 0, 0));
        for (int buyers = -1; buyers <= 65; buyers++) {
            int many = Integer.bitCount(buyers);
            if (buyers <= 0 || buyers > 63 || many > 4) {
                due("how many of " + buyers, Check.rests(x, buyers, NONE), Check.THREW);
                due("the first of " + buyers, Check.rests(x, buyers, 0), Check.THREW);
            } else {
                rest("the first one alone, of " + buyers, x, buyers, buyers & -buyers);
            }
        }
        due("nobody is out", x.count(7), 0);
        TeaJunction y = Check.at(queue(0, 0, 0, 0));
        rest("four of four", y, 15, 1);
        due("a fifth is not told", Check.rests(y, 16, NONE), Check.THREW);
        yes("bell 60", y.set(0, 60));
        rest("two of four have drunk by 60", y, 15, 3);
        rest("two of three", y, 14, 6);
        yes("bell 39", y.set(0, 39));
        rest("nobody has drunk by 39", y, 15, 0);
        yes("bell 40", y.set(0, 40));
        rest("one by 40", y, 15, 1);
        due("of none", Check.rests(new TeaJunction(), 1, NONE), Check.THREW);
        due("of none", Check.rests(new TeaJunction(), 0, NONE), Check.THREW);
    }

    private static void restsWithOthers() {
        TeaJunction x = Check.at(queue(0, 0, 0, 0, 0, 0));
        yes("the first is out", x.out(0, true));
        rest("the others stay in", x, 30, 0);
        rest("but if he is asked", x, 15, 1);
        yes("the first is in, the last out", x.out(0, false) && x.out(5, true));
        rest("he is ahead of the last", x, 30, 2);
        due("the last is out as he was", x.count(7), 32);
        yes("all out", x.out(1, true) && x.out(2, true));
        rest("who is asked is out or not, as he likes", x, 6, 2);
    }

    private static void errand(String what, TeaJunction x, int buyers, int can, int who, int when) {
        due(what + ": who can", x.errand(buyers, 0), can);
        due(what + ": who is the first", x.errand(buyers, 1), who);
        due(what + ": when", x.errand(buyers, 2), when);
        due(what + ": what -1", x.errand(buyers, -1), NONE);
        due(what + ": what 3", x.errand(buyers, 3), NONE);
    }

    private static void errandByWhenHeGoes() {
        // too hot for ever, but all is drunk in the coach
        TeaJunction x = Check.at("stop 100 bell 100; women 1;" + coach("a", 0) + tea("t", 20, 99, 0)
                + buyer("p", "plain", "a", "t") + buyer("q", "plain", "a", "t") + buyer("r", "plain", "a", "t"));
        errand("of three, equal ones", x, 7, 7, 0, 60);
        errand("of the last two", x, 6, 6, 1, 40);
        errand("of the last", x, 4, 4, 2, 20);
        yes("bell 60", x.set(0, 60));
        errand("60 by 60", x, 7, 7, 0, 60);
        yes("bell 59", x.set(0, 59));
        errand("60 by 59", x, 7, 0, NONE, NONE);
        errand("40 by 59", x, 3, 3, 0, 40);
        yes("bell 20", x.set(0, 20));
        errand("20 by 20", x, 2, 2, 1, 20);
        errand("40 by 20", x, 5, 0, NONE, NONE);
        yes("bell 19", x.set(0, 19));
        errand("20 by 19", x, 1, 0, NONE, NONE);
        due("of nobody", x.errand(0, 0), NONE);
        due("of nobody", x.errand(0, 1), NONE);
        due("of one who is not told", x.errand(8, 0), NONE);
        due("of one who is not told", x.errand(9, 0), NONE);
    }

    private static void errandOfThree() {
        TeaJunction x = Check.at("stop 100 bell 100; women 1; pace 10;" + coach("a", 0) + coach("b", 10)
                + pie("t", 20) + buyer("p", "plain", "b", "t") + buyer("q", "plain", "a", "t")
                + buyer("r", "early", "b", "t"));
        errand("p 70, q and r 60: the first of these", x, 7, 7, 1, 60);
        errand("p 50, r 40", x, 5, 5, 2, 40);
        errand("p 50, q 40", x, 3, 3, 1, 40);
        errand("p alone", x, 1, 1, 0, 30);
        yes("bell 70", x.set(0, 70));
        errand("p 70 by 70", x, 7, 7, 1, 60);
        yes("bell 69", x.set(0, 69));
        errand("p 70 by 69", x, 7, 6, 1, 60);
        yes("bell 30", x.set(0, 30));
        errand("p 30 by 30", x, 1, 1, 0, 30);
        yes("bell 29", x.set(0, 29));
        errand("p 30 by 29", x, 1, 0, NONE, NONE);
        yes("bell 10", x.set(0, 10));
        errand("he is not even served", x, 1, 0, NONE, NONE);
    }

    private static void errandByTheStop() {
        String text = "stop 60 bell 60; pace 10;" + coach("b", 10) + pie("t", 20) + pie("u", 20)
                + buyer("p", "plain", "b", "t") + buyer("q", "plain", "b", "u");
        errand("50 and 10 back", Check.at(text), 3, 3, 0, 50);
        errand("51", Check.at(text.replace("u pie secs 20", "u pie secs 21")), 3, 0, NONE, NONE);
        errand("too far", Check.at(text.replace("yards 10", "yards 30")), 1, 0, NONE, NONE);
    }

    private static void errandOfPounds() {
        TeaJunction x = Check.at("stop 100 bell 100; women 1; change 10;" + coach("a", 0) + pie("t", 20)
                + buyer("p", "pound", "a", "t") + buyer("q", "plain", "a", "t"));
        errand("change but for him who goes", x, 3, 3, 1, 40);
        yes("bell 50", x.set(0, 50));
        errand("40 and change by 50", x, 3, 3, 1, 40);
        yes("bell 49", x.set(0, 49));
        errand("40 and change by 49", x, 3, 2, 1, 40);
        yes("bell 39", x.set(0, 39));
        errand("40 by 39", x, 3, 0, NONE, NONE);
    }

    private static void errandWithOthers() {
        TeaJunction x = Check.at("stop 100 bell 100; women 1; pace 10;" + coach("a", 0) + coach("b", 10)
                + pie("t", 20) + buyer("p", "plain", "b", "t") + buyer("q", "plain", "b", "t")
                + buyer("r", "plain", "a", "t"));
        errand("nobody else", x, 3, 3, 0, 50);
        yes("q is out", x.out(1, true));
        errand("who is asked does not get out but for all", x, 3, 3, 0, 50);
        yes("r is out", x.out(2, true));
        errand("behind r", x, 3, 3, 0, 60);
        errand("but if he is asked", x, 7, 7, 2, 60);
        yes("bell 59", x.set(0, 59));
        errand("behind r", x, 3, 0, NONE, NONE);
        due("out as they were", x.count(7), 6);
    }

    private static void errandOfAll() {
        String six = queue(0, 0, 0, 0, 0, 0).replace("secs 20", "secs 9");
        TeaJunction x = Check.at(six.replace("bell 59", "bell 54"));
        errand("all six", x, 63, 63, 0, 54);
        errand("five", x, 62, 62, 1, 45);
        errand("the last", x, 32, 32, 5, 9);
        due("a seventh", x.errand(64, 0), NONE);
        due("a seventh", x.errand(127, 0), NONE);
        due("below", x.errand(-1, 0), NONE);
        yes("bell 53", x.set(0, 53));
        errand("54 by 53", x, 63, 0, NONE, NONE);
        due("of none told", new TeaJunction().errand(1, 0), NONE);
    }

    /** What he wants for the others counts: three THINGS three times are many 9. */
    private static void errandCountsAll() {
        String text = "stop 300 bell 300; women 1;" + coach("a", 0) + pie("t", 1) + pie("u", 1) + pie("v", 1)
                + pie("w", 50) + buyer("p", "plain", "a", "t u v") + buyer("q", "plain", "a", "t u v")
                + buyer("r", "plain", "a", "t u v") + buyer("s", "plain", "a", "w");
        for (int many = 8; many <= 10; many++) {
            TeaJunction x = Check.at(text + "order many = " + many + ";");
            yes("s is out", x.out(3, true));
            errand("by " + many, x, 7, 7, 0, many == 9 ? 59 : 9);
            errand("of two, by " + many, x, 3, 3, 0, 6);
        }
    }

    private static void table(String what, TeaJunction x, int... due) {
        for (int women = 0; women <= 3; women++) {
            for (int rule = -1; rule <= 3; rule++) {
                boolean taken = women >= 1 && women <= 2 && rule >= 0 && rule <= 2;
                due(what + ": " + women + " women, rule " + rule, x.table(women, rule),
                        taken ? due[(women - 1) * 3 + rule] : NONE);
            }
        }
    }

    private static void tables() {
        String text = "stop 100 bell 60; women 1; change 40; sip 10;" + coach("a", 0) + pie("t", 20) + pie("u", 10)
                + pie("v", 10) + pie("w", 10) + buyer("p", "pound", "a", "t") + buyer("q", "plain", "a", "u v w");
        // p first: SERVED at 60, as she is free; q first: SERVED at 30, drinks till 60
        TeaJunction x = allOut(text + "order many;");
        table("p has the least many", x, 0, 0, 3, 3, 3, 3);
        due("the women are as they were", x.count(6), 1);
        yes("bell 59", x.set(0, 59));
        table("q drinks two by 59", x, 0, 0, 2, 2, 2, 2);
        yes("bell 69", x.set(0, 69));
        table("p drinks none by 69", x, 0, 0, 3, 3, 3, 3);
        yes("bell 70", x.set(0, 70));
        table("p drinks it by 70", x, 1, 1, 3, 4, 4, 4);
        yes("p is in", x.out(0, false));
        table("q alone", x, 3, 3, 3, 3, 3, 3);
        yes("q is in", x.out(1, false));
        table("nobody", x, 0, 0, 0, 0, 0, 0);
        x = allOut(text + "order many;");
        due("rule 2", x.table(1, 2), 3);
        due("the ROUND goes by order", x.round(1), 0);
        due("rule 1", x.table(2, 1), 3);
        due("the ROUND is of one woman", x.round(1), 0);
        table("q has the least", allOut(text + "order 0-many;"), 3, 0, 3, 3, 3, 3);
        table("without order", allOut(text), 0, 0, 3, 3, 3, 3);
        table("nobody is told", new TeaJunction(), 0, 0, 0, 0, 0, 0);
    }

    private static void tableOfEqualOnes() {
        // s is served till 20; then r first: 1 of his, none of q; q first: 2 of his
        String text = "stop 100 bell 70; women 1; change 0; pace 10; sip 10;" + coach("a", 0) + coach("b", 10)
                + coach("c", 11) + pie("t", 20) + pie("u", 10) + pie("v", 10) + pie("w", 10)
                + buyer("s", "plain", "a", "t");
        String q = buyer("q", "plain", "c", "u v w");
        TeaJunction x = allOut(text + q + buyer("r", "plain", "b", "t") + "order 0-many;");
        due("by order q", x.table(1, 0), 3);
        due("r came first", x.table(1, 1), 2);
        due("of exact ones r came first", x.table(1, 2), 2);
        x = allOut(text + q + buyer("r", "pound", "b", "t"));
        due("r came first", x.table(1, 1), 2);
        due("q is the exact one", x.table(1, 2), 3);
        x = allOut(text + q + buyer("r", "plain", "c", "t") + "order many;");
        due("by order r", x.table(1, 0), 2);
        due("of equal ones the first", x.table(1, 1), 3);
        due("of equal ones the first", x.table(1, 2), 3);
        x = allOut(text + buyer("q", "pound", "c", "u v w") + buyer("r", "pound", "b", "t"));
        due("of pound ones r came first", x.table(1, 2), 2);
    }

    private static TeaJunction standing(int pace, int yards) {
        return allOut("stop 60 bell 60; pace " + pace + "; sip 20;" + coach("a", yards) + pie("t", 20)
                + buyer("p", "plain", "a", "t"));
    }

    /** He has 60 seconds, 40 for his pie: a WAY of 10 at most. */
    private static void standAtBothEnds() {
        due("but at 200", standing(30, 200).stand(), 200);
        due("190 is a WAY of 11", standing(11, 200).stand(), 200);
        due("190 is a WAY of 10", standing(10, 200).stand(), 190);
        due("190 is a WAY of 9, 180 of 18", standing(9, 200).stand(), 190);
        due("180 is a WAY of 10", standing(5, 200).stand(), 180);
        due("but at 0", standing(30, 0).stand(), 0);
        due("WAY 10 at 0", standing(10, 10).stand(), 0);
        due("WAY 11 at 0", standing(10, 11).stand(), 10);
        due("all of them", standing(1, 100).stand(), 0);
        due("WAY 11 by 90, 10 by 100", standing(1, 200).stand(), 100);
    }

    private static void standByTens() {
        TeaJunction x = standing(30, 195);
        due("15 by 190 and 200: nothing is DRUNK by any", x.stand(), 0);
        yes("by hand", x.set(1, 195));
        due("at 195 it is", x.round(1), 1);
        due("but it is no ten", x.stand(), 0);
        due("the urn stays", x.count(5), 195);
        due("9 by 193", standing(30, 193).stand(), 190);
        due("9 by 187", standing(30, 187).stand(), 190);
        due("12 by 194", standing(30, 194).stand(), 0);
        due("6 by 198", standing(30, 198).stand(), 200);
    }

    private static void standOfEqualOnes() {
        String text = "stop 60 bell 60; pace 30; sip 20; women 2;" + coach("a", 0) + coach("b", 200) + coach("c", 100)
                + pie("t", 20) + buyer("p", "plain", "b", "t") + buyer("q", "plain", "a", "t")
                + buyer("r", "plain", "b", "t") + buyer("s", "plain", "c", "t");
        TeaJunction x = Check.at(text);
        due("nobody is out", x.stand(), 0);
        yes("p", x.out(0, true));
        due("p", x.stand(), 200);
        yes("q", x.out(1, true));
        due("p and q are equal", x.stand(), 0);
        yes("r", x.out(2, true));
        due("p and r are more", x.stand(), 200);
        yes("s for p", x.out(3, true) && x.out(0, false));
        due("q, r, s are equal", x.stand(), 0);
        yes("q is in", x.out(1, false));
        due("r and s are equal", x.stand(), 100);
        due("a new one", new TeaJunction().stand(), 0);
    }

    private static TeaJunction ringing(int stop, int secs, int sip) {
        return allOut("stop " + stop + " bell 1; sip " + sip + ";" + coach("a", 0) + pie("t", secs)
                + buyer("p", "plain", "a", "t"));
    }

    private static void rings() {
        TeaJunction x = ringing(60, 30, 30);
        due("the last second", x.ring(), 60);
        due("the bell stays", x.count(4), 1);
        yes("nobody is out", x.out(0, false));
        due("the first second", x.ring(), 1);
        due("the first of equal ones", ringing(61, 30, 30).ring(), 60);
        due("nothing by any", ringing(60, 30, 31).ring(), 1);
        due("soon", ringing(60, 1, 1).ring(), 2);
        due("late", ringing(900, 60, 120).ring(), 180);
        due("a new one", new TeaJunction().ring(), 1);
        String text = "stop 900 bell 1; sip 120; women 1;" + coach("a", 0) + pie("t", 60) + pie("u", 60) + pie("v", 60);
        String all = "t u v";
        due("three", allOut(text + buyer("p", "plain", "a", all)).ring(), 540);
        due("the last second of all", allOut(text + buyer("q", "plain", "a", all) + buyer("r", "plain", "a", all)
                + buyer("s", "plain", "a", all)).ring(), 900);
    }

    private static TeaJunction lateOne(int secs, int sip) {
        return allOut("stop 60 bell 60; pace 10; women 2; sip " + sip + ";" + coach("a", 0) + coach("b", 10)
                + pie("t", secs) + pie("u", 1) + buyer("p", "plain", "b", "t") + buyer("q", "plain", "a", "u"));
    }

    /** p comes at 10 and is SERVED behind the bell: 10 back; q drinks till 1 and sip. */
    private static void ringWithoutAnyoneBehind() {
        due("p 51 and 10", lateOne(41, 10).ring(), 1);
        due("p is not served by a bell at 10", lateOne(41, 9).ring(), 10);
        due("p 50 and 10", lateOne(40, 10).ring(), 11);
        due("p 50 and 10", lateOne(40, 49).ring(), 50);
        due("p 51 and 10", lateOne(41, 49).ring(), 1);
        due("p drinks at 12, q at 2", lateOne(1, 1).ring(), 12);
    }

    private static void ringByNone() {
        String text = "stop 60 bell 60; pace 10;" + pie("t", 1) + buyer("p", "plain", "a", "t");
        due("60 back by 60", allOut(coach("a", 60) + text).ring(), 1);
        due("61 back by 60", allOut(coach("a", 61) + text).ring(), NONE);
        TeaJunction x = Check.at(coach("a", 61) + text);
        due("but if he stays", x.ring(), 1);
        yes("urn", x.out(0, true) && x.set(1, 1));
        due("60 from there", x.ring(), 1);
    }

    private static TeaJunction warming(int bell, int price, int lips) {
        return allOut("stop 300 bell " + bell + "; women 1; sip 1; lips " + lips + ";" + coach("a", 0)
                + tea("t", 1, price, 40, 20) + pie("o", 1) + buyer("p", "plain", "a", "t"));
    }

    /** From 97 to 60 it takes 111 seconds, from 98 114, from 99 117; he begins at 1 and sips 1. */
    private static void bestByPence() {
        int[][] due = {{112, 97}, {115, 98}, {116, 99}, {118, 99}, {119, 0}, {300, 0}, {2, 61}, {4, 61}, {5, 62},
            {1, 0}};
        for (int[] n : due) {
            TeaJunction x = warming(n[0], 2, 60);
            due("by pence, bell " + n[0], x.best(0, true), n[1]);
            due("by what is DRUNK", x.best(0, false), 0);
            due("as hot as it was", x.thing(0, 3), 40);
            due("of a pie", x.best(1, true), NONE);
            due("of a pie", x.best(1, false), NONE);
            due("of none", x.best(2, true), NONE);
        }
        due("lips 99", warming(2, 2, 99).best(0, true), 0);
        due("lips 98", warming(2, 2, 98).best(0, true), 99);
        due("lips 0", warming(2, 2, 0).best(0, true), 1);
    }

    private static void bestByHalfThePrice() {
        due("half of 1 is 0", warming(116, 1, 60).best(0, true), 0);
        due("half of 2 is 1", warming(116, 2, 60).best(0, true), 99);
        due("half of 3 is 1", warming(116, 3, 60).best(0, true), 99);
        String text = "stop 300 bell 200; women 1; lips 60; sip 1;" + coach("a", 0) + tea("t", 1, 1, 99, 0);
        String p = buyer("p", "plain", "a", "t u");
        due("a pie behind it is not poured back", allOut(text + pie("u", 1, 99) + p).best(0, true), 0);
        due("nor a tea of a penny", allOut(text + tea("u", 1, 1, 0, 0) + p).best(0, true), 0);
        due("a tea of two is", allOut(text + tea("u", 1, 2, 0, 0) + p).best(0, true), 61);
        String u = buyer("p", "plain", "a", "u t");
        due("that is not behind it", allOut(text + tea("u", 1, 2, 0, 0) + u).best(0, true), 0);
        // by 60 both are DRUNK at 4, by 61 t is at 6 and u is LEFT, by 62 both are
        due("both together", allOut("stop 300 bell 6; women 1; lips 60; sip 1;" + coach("a", 0) + tea("t", 1, 2, 99, 20)
                + tea("u", 1, 4, 0, 0) + buyer("p", "plain", "a", "t u")).best(0, true), 62);
        StringBuilder six = new StringBuilder("stop 300 bell 300; women 2; lips 60; sip 1;" + coach("a", 0)
                + tea("t", 1, 2, 0, 0));
        for (int i = 0; i < 6; i++) {
            six.append(buyer("b" + "abcdef".charAt(i), "plain", "a", "t"));
        }
        TeaJunction x = allOut(six.toString());
        due("of six", x.best(0, true), 61);
        due("of six", x.best(0, false), 0);
        due("six are SERVED", x.round(4), 6);
        due("nothing LEFT", x.round(2), 0);
        due("a soup is", allOut(text + "thing u soup secs 1 price 2 hot 0 cools 0;" + p).best(0, true), 61);
    }

    private static void bestOfEqualOnes() {
        TeaJunction x = warming(116, 99, 60);
        yes("nobody is out", x.out(0, false));
        due("all are equal", x.best(0, true), 0);
        due("all are equal", x.best(0, false), 0);
        due("none is told", new TeaJunction().best(0, false), NONE);
        // LEFT by any heat of the first: SERVED at 2, u is at 99 for ever
        due("equal, as both are LEFT", allOut("stop 300 bell 200; lips 60;" + coach("a", 0) + tea("t", 1, 9, 99, 0)
                + tea("u", 1, 9, 99, 0) + buyer("p", "plain", "a", "u t")).best(0, true), 0);
    }

    private static String boys(int[]... dearAndMany) {
        StringBuilder s = new StringBuilder(coach("a", 0) + pie("t", 1, 1) + pie("u", 1, 10) + pie("v", 1, 99));
        String[] wants = {"t", "t u", "t u v"};
        for (int i = 0; i < dearAndMany.length; i++) {
            s.append(buyer("b" + "abcdef".charAt(i), "plain", "a", 0, dearAndMany[i][0], wants[dearAndMany[i][1] - 1]));
        }
        return s.toString();
    }

    private static void traysByHowMany() {
        // 1, 11 and 110 pence for 1, 2 and 3 THINGS
        TeaJunction x = Check.at(boys(new int[] {99, 2}, new int[] {99, 1}, new int[] {99, 3}));
        int[] due = {0, 1, 11, 12, 12, 11 + 1, 122, 122};
        for (int many = 0; many < due.length; many++) {
            due("tray of " + many, x.tray(many, 0), due[many]);
        }
        due("tray of 36", x.tray(36, 0), 122);
        due("tray of 37", x.tray(37, 0), NONE);
        due("tray of -1", x.tray(-1, 0), NONE);
        due("each 99 dearer", x.tray(36, 99), 122 + 6 * 99);
        due("each 100 dearer", x.tray(36, 100), NONE);
        due("each -1", x.tray(36, -1), NONE);
        due("one too few for the first, the second buys", x.tray(1, 99), 100);
        x = Check.at(boys(new int[] {9, 3}, new int[] {9, 2}, new int[] {9, 1}));
        int[] later = {0, 1, 11, 110, 111, 121, 122};
        for (int many = 0; many < later.length; many++) {
            due("by numbers, tray of " + many, x.tray(many, 0), later[many]);
        }
        int[] three = {9, 3};
        x = Check.at(boys(three, three, three, three, three, three));
        due("18", x.tray(18, 9), 660 + 18 * 9);
        due("17", x.tray(17, 9), 550 + 15 * 9);
        due("36", x.tray(36, 9), 660 + 18 * 9);
        due("nobody is told", new TeaJunction().tray(36, 0), 0);
        due("nobody is told", new TeaJunction().tray(37, 0), NONE);
    }

    private static void traysByWhoWouldPay() {
        TeaJunction x = Check.at(boys(new int[] {0, 3}, new int[] {5, 2}, new int[] {99, 1}));
        due("0", x.tray(36, 0), 122);
        due("1", x.tray(36, 1), 11 + 2 + 1 + 1);
        due("5 is no more than 5", x.tray(36, 5), 11 + 10 + 1 + 5);
        due("6 is", x.tray(36, 6), 1 + 6);
        due("99", x.tray(36, 99), 1 + 99);
        due("who would not pay leaves it", x.tray(2, 5), 11 + 10);
        due("who would not pay leaves it", x.tray(2, 6), 7);
        due("who would not pay leaves it", x.tray(1, 5), 6);
        yes("who is out pays no other", x.out(0, true));
        due("the same", x.tray(36, 5), 27);
    }

    private static void prices() {
        due("0 of all that would pay nothing", Check.at(boys(new int[] {0, 3})).price(36), 0);
        due("99", Check.at(boys(new int[] {99, 3})).price(36), 99);
        due("98", Check.at(boys(new int[] {98, 3})).price(3), 98);
        due("too few: all equal", Check.at(boys(new int[] {98, 3})).price(2), 0);
        due("of nothing", Check.at(boys(new int[] {98, 1})).price(0), 0);
        due("nobody is told", new TeaJunction().price(36), 0);
        // at 4: 1 + 4 + 1 + 4; at d: 1 + d
        for (int d = 8; d <= 10; d++) {
            TeaJunction x = Check.at(boys(new int[] {4, 1}, new int[] {d, 1}));
            due("10 by 4, " + (1 + d), x.price(36), d <= 9 ? 4 : 10);
            due("as much as that", x.tray(36, x.price(36)), d <= 9 ? 10 : 11);
            due("but one left", x.price(1), d);
            due("36", x.price(37), NONE);
            due("-1", x.price(-1), NONE);
        }
    }

    private static String pouring(String late, int secs, int hot, int cools) {
        return "stop 300 bell 300; women 1; pace 10; lips 60; sip 20; " + late + coach("a", 0) + coach("b", 10)
                + tea("t", secs, hot, cools) + pie("u", 5);
    }

    private static void ahead(String what, TeaJunction x, int many, int due) {
        due(what + ": " + many + " ahead", x.ahead(0, many), due);
    }

    private static void aheadOfNobody() {
        TeaJunction x = Check.at(pouring("late 1 2 3 4;", 20, 50, 0) + buyer("p", "plain", "a", "t"));
        for (int many = 0; many <= 12; many++) {
            ahead("nobody is out", x, many, -1000 * many);
        }
        ahead("beyond 12", x, 13, NONE);
        ahead("below 0", x, -1, NONE);
        due("of a pie", x.ahead(1, 0), NONE);
        due("of none", x.ahead(2, 0), NONE);
        due("none are best", x.most(0), 0);
        due("of a pie", x.most(1), NONE);
        due("of none", x.most(2), NONE);
        yes("out", x.out(0, true));
        ahead("he has a fresh one", x, 0, 1000);
        ahead("he has it", x, 1, 1000);
        ahead("one is left over", x, 2, 0);
        ahead("eleven are", x, 12, -10000);
        x = allOut(pouring("", 20, 50, 0) + buyer("p", "plain", "a", "u"));
        ahead("he does not want it", x, 0, 1000);
        ahead("he does not want it", x, 1, 0);
        ahead("he does not want it", x, 12, -11000);
        yes("bell 24", x.set(0, 24));
        ahead("5 and 20 by 24", x, 1, -1000);
        yes("bell 25", x.set(0, 25));
        ahead("5 and 20 by 25", x, 1, 0);
    }

    private static void aheadTakesOneSecond() {
        TeaJunction x = allOut(pouring("", 20, 50, 0) + buyer("p", "plain", "a", "t"));
        int[][] due = {{20, 0, 0}, {21, 0, 1000}, {39, 0, 1000}, {40, 1000, 1000}};
        for (int[] n : due) {
            yes("bell", x.set(0, n[0]));
            ahead("by " + n[0], x, 0, n[1]);
            ahead("by " + n[0], x, 1, n[2]);
            ahead("by " + n[0], x, 2, n[2] - 1000);
        }
        x = allOut(pouring("", 1, 50, 0) + buyer("p", "plain", "a", "t"));
        yes("bell 21", x.set(0, 21));
        ahead("1 second for 1", x, 1, 1000);
        ahead("1 second for 1", x, 0, 1000);
        x = allOut(pouring("change 30;", 20, 50, 0) + buyer("p", "pound", "a", "t u"));
        yes("1, 5, change 30, and 20 twice", x.set(0, 76));
        ahead("by 76", x, 1, 2000);
        yes("bell 75", x.set(0, 75));
        ahead("by 75", x, 1, 1000);
        yes("bell 1", x.set(0, 1));
        ahead("SERVED later, all is LEFT, but he had it", x, 1, 0);
    }

    /** It is 1 too hot: at 60 seconds since the minute it should come. */
    private static void aheadTooHot() {
        String p = buyer("p", "plain", "a", "t");
        TeaJunction x = allOut(pouring("", 20, 61, 1) + p);
        int[][] due = {{79, 0, 0}, {80, 0, 1000}, {99, 0, 1000}, {100, 1000, 1000}};
        for (int[] n : due) {
            yes("bell", x.set(0, n[0]));
            ahead("by " + n[0], x, 0, n[1]);
            ahead("by " + n[0], x, 1, n[2]);
        }
        x = allOut(pouring("late 0 10 0 0;", 20, 61, 1) + p);
        yes("bell 21", x.set(0, 21));
        ahead("a minute late it is 60 at once", x, 1, 1000);
        yes("bell 20", x.set(0, 20));
        ahead("20 to drink", x, 1, 0);
        x = allOut(pouring("late 0 10 0 0;", 20, 62, 1) + p);
        yes("bell 80", x.set(0, 80));
        ahead("120 since then", x, 1, 1000);
        yes("bell 79", x.set(0, 79));
        ahead("120 since then", x, 1, 0);
        x = allOut(pouring("", 20, 61, 0) + p);
        ahead("it never cools", x, 1, 0);
        x = allOut(pouring("", 20, 60, 0) + p);
        ahead("no hotter than 60", x, 1, 1000);
        x = allOut(pouring("", 20, 99, 20) + p);
        yes("39 too hot, 117 and 20", x.set(0, 137));
        ahead("by 137", x, 1, 1000);
        yes("bell 136", x.set(0, 136));
        ahead("by 136", x, 1, 0);
    }

    private static void aheadTooCold() {
        String p = buyer("p", "plain", "a", "t");
        ahead("20", allOut(pouring("", 20, 20, 0) + p), 1, 1000);
        ahead("19", allOut(pouring("", 20, 19, 0) + p), 1, 0);
        ahead("0", allOut(pouring("", 20, 0, 20) + p), 1, 0);
        for (String kind : new String[] {"pound", "early"}) {
            ahead("20 of " + kind, allOut(pouring("", 20, 20, 0) + buyer("p", kind, "a", "t")), 1, 1000);
            ahead("19 of " + kind, allOut(pouring("", 20, 19, 0) + buyer("p", kind, "a", "t")), 1, 0);
        }
        ahead("a fresh one of 19", allOut(pouring("", 20, 19, 0) + p), 0, 1000);
        ahead("a fresh one of 0", allOut(pouring("", 20, 0, 0) + p), 0, 1000);
        // 1 second: cut, it is as hot yet; a minute late 1, 2, 3 less
        for (int hot = 19; hot <= 24; hot++) {
            TeaJunction x = allOut(pouring("late 1 2 3 4;", 20, hot, 1) + p);
            int[] due = {0, 100, 300, 600, 1000, 1000};
            ahead(hot + " by odds", x, 1, due[hot - 19]);
            ahead(hot + " fresh", x, 0, 1000);
        }
        // He comes at 59 behind, SERVED at 60: 1 less; a second earlier it is not.
        for (int yards = 58; yards <= 59; yards++) {
            ahead("at " + yards, allOut(pouring("", 20, 20, 1).replace("yards 10;", "yards " + yards + ";")
                    + buyer("p", "plain", "b", "t")), 1, yards == 58 ? 1000 : 0);
        }
        ahead("it can't be below 0", allOut(pouring("late 0 0 0 10;", 20, 19, 20) + p), 1, 0);
        ahead("three minutes late: 60 of 80", allOut(pouring("late 0 0 0 10;", 20, 80, 20) + p), 1, 1000);
        ahead("three minutes late: 60 of 79", allOut(pouring("late 0 0 0 10;", 20, 79, 20) + p), 1, 0);
    }

    /** What is too cold is LEFT alone; he goes on from that second. */
    private static void aheadItAlone() {
        TeaJunction x = allOut(pouring("", 20, 19, 0) + buyer("p", "plain", "a", "t u"));
        yes("1 and 5, then 20 for the pie", x.set(0, 26));
        ahead("by 26", x, 1, 1000);
        yes("bell 25", x.set(0, 25));
        ahead("by 25", x, 1, 0);
        // u till 26, then t: cooled by 8 at 24, by 9 at 27
        for (int hot = 27; hot <= 28; hot++) {
            x = allOut(pouring("", 20, hot, 20) + buyer("p", "plain", "a", "u t"));
            ahead(hot + " behind the pie", x, 1, hot == 27 ? 1000 : 2000);
            ahead(hot + " fresh", x, 0, 2000);
        }
        // A fresh one too hot at the end: all behind it is LEFT, the poured one too.
        x = allOut(pouring("", 20, 50, 0) + tea("w", 1, 99, 0) + buyer("p", "plain", "a", "w t"));
        ahead("behind what is too hot", x, 1, 0);
        x = allOut(pouring("", 20, 50, 0) + tea("w", 1, 99, 0) + buyer("p", "plain", "a", "t w"));
        ahead("ahead of what is too hot", x, 1, 1000);
        // lips of 19 and less: as he would begin to it is too cold, and he has waited till then
        for (int lips = 9; lips <= 20; lips++) {
            int cool = 6 * (30 - lips);
            x = allOut(pouring("", 20, 30, 10).replace("lips 60", "lips " + lips) + buyer("p", "plain", "a", "t u"));
            yes("the pie from then", x.set(0, cool + 20));
            ahead("lips " + lips, x, 1, 1000);
            yes("a second less", x.set(0, cool + 19));
            ahead("lips " + lips, x, 1, 0);
            yes("20 more", x.set(0, cool + 40));
            ahead("lips " + lips, x, 1, lips < 20 ? 1000 : 2000);
        }
        // two pies behind it, from 120 till 160
        x = allOut(pouring("", 20, 30, 10).replace("lips 60", "lips 10") + pie("v", 1)
                + buyer("p", "plain", "a", "t u v"));
        yes("bell 160", x.set(0, 160));
        ahead("both pies", x, 1, 2000);
        yes("bell 159", x.set(0, 159));
        ahead("one pie", x, 1, 1000);
        x = allOut(pouring("", 20, 30, 0).replace("lips 60", "lips 19") + buyer("p", "plain", "a", "t u"));
        ahead("it never is no hotter than 19", x, 1, 0);
        // Too cold and something too hot behind it.
        x = allOut(pouring("", 20, 19, 0) + tea("w", 1, 99, 0) + pie("v", 1) + buyer("p", "plain", "a", "t w v"));
        ahead("then too hot, then a pie", x, 1, 0);
        x = allOut(pouring("", 20, 19, 0) + tea("w", 1, 99, 0) + pie("v", 1) + buyer("p", "plain", "a", "t v w"));
        ahead("then a pie, then too hot", x, 1, 1000);
    }

    /** q comes first, has the one that is poured, and p a fresh one. */
    private static void aheadInOrder() {
        TeaJunction x = allOut(pouring("", 20, 50, 0) + buyer("p", "plain", "b", "t") + buyer("q", "plain", "a", "t"));
        // q 0 to 1, drinks till 21; p 10 to 30, drinks till 50
        int[][] due = {{20, 0}, {21, 1000}, {49, 1000}, {50, 2000}};
        for (int[] n : due) {
            yes("bell", x.set(0, n[0]));
            ahead("by " + n[0], x, 1, n[1]);
        }
        // both: p 10 to 11, drinks till 31
        int[][] two = {{30, 1000}, {31, 2000}};
        for (int[] n : two) {
            yes("bell", x.set(0, n[0]));
            ahead("by " + n[0], x, 2, n[1]);
            ahead("by " + n[0], x, 3, n[1] - 1000);
        }
        // Who does not want it does not take it.
        x = allOut(pouring("", 20, 50, 0) + buyer("p", "plain", "b", "t") + buyer("q", "plain", "a", "u"));
        yes("bell 31", x.set(0, 31));
        ahead("p has it", x, 1, 2000);
        // Both women at 0: the first one's buyer has it.
        x = allOut(pouring("", 20, 50, 0) + buyer("p", "plain", "a", "t") + buyer("q", "plain", "a", "t u"));
        yes("two women, bell 21", x.set(2, 2) && x.set(0, 21));
        ahead("p has it", x, 1, 1000);
        ahead("q has not yet drunk", x, 2, 1000);
        yes("bell 26", x.set(0, 26));
        ahead("q has", x, 2, 2000);
        ahead("without it not", x, 1, 1000);
    }

    /** Each one who had one has it, not but the last. */
    private static void aheadOfTwo() {
        TeaJunction x = allOut(pouring("", 20, 19, 0) + buyer("p", "plain", "a", "t") + buyer("q", "plain", "a", "t")
                + buyer("r", "plain", "b", "t"));
        int[] due = {3000, 2000, 1000, 0, -1000};
        for (int many = 0; many < due.length; many++) {
            ahead("too cold for each", x, many, due[many]);
        }
    }

    private static void aheadByOdds() {
        String p = buyer("p", "plain", "a", "t");
        String[] late = {"late 10 0 0 0;", "late 0 10 0 0;", "late 0 0 10 0;", "late 0 0 0 10;"};
        for (int minutes = 0; minutes < 4; minutes++) {
            // 20 and one for each minute: it is 20 then
            ahead("just warm", allOut(pouring(late[minutes], 20, 20 + minutes, 1) + p), 1, 1000);
            ahead("too cold", allOut(pouring(late[minutes], 20, 19 + minutes, 1) + p), 1, 0);
        }
        ahead("without late", allOut(pouring("", 20, 20, 1) + p), 1, 1000);
        ahead("9 and 1", allOut(pouring("late 9 1 0 0;", 20, 20, 1) + p), 1, 900);
        ahead("1 and 9", allOut(pouring("late 1 9 0 0;", 20, 20, 1) + p), 1, 100);
        ahead("1 and 9, one left over", allOut(pouring("late 1 9 0 0;", 20, 20, 1) + p), 2, -900);
        ahead("1 and 9, eleven left over", allOut(pouring("late 1 9 0 0;", 20, 20, 1) + p), 12, -10900);
    }

    private static void mosts() {
        StringBuilder s = new StringBuilder(pouring("", 60, 50, 0));
        for (int i = 0; i < 6; i++) {
            s.append(buyer("b" + "abcdef".charAt(i), "plain", "a", "t"));
        }
        TeaJunction x = allOut(s.toString());
        yes("two women", x.set(2, 2));
        // of poured ones two are SERVED at 1, two at 2, two at 3
        int[][] due = {{20, 0}, {21, 2}, {22, 4}, {23, 6}, {79, 6}};
        for (int[] n : due) {
            yes("bell", x.set(0, n[0]));
            due("most by " + n[0], x.most(0), n[1]);
        }
        ahead("six of six", x, 6, 6000);
        ahead("five: a fresh one is SERVED at 62", x, 5, 5000);
        ahead("seven of six", x, 7, 5000);
        yes("bell 300", x.set(0, 300));
        due("fresh ones do as well", x.most(0), 0);
        ahead("all by 200", x, 0, 6000);
        // equal: 1 poured, 1 more DRUNK in half the cases, none more of 2
        TeaJunction y = allOut(pouring("late 5 5 0 0;", 60, 20, 1) + buyer("p", "plain", "a", "t"));
        yes("bell 21", y.set(0, 21));
        due("one in half the cases", y.most(0), 1);
        ahead("one in half the cases", y, 1, 500);
        yes("bell 80", y.set(0, 80));
        due("none: 1000 against 500", y.most(0), 0);
        y = allOut(pouring("late 0 10 0 0;", 60, 20, 1) + buyer("p", "plain", "a", "t"));
        yes("bell 21", y.set(0, 21));
        due("0 by none and by one: the least", y.most(0), 0);
        due("a new one", new TeaJunction().most(0), NONE);
        due("as many as were out", y.count(7), 1);
    }
}
