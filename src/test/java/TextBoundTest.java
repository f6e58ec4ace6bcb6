/** The bounds of what a JUNCTION and DAYS tell: each NUMBER, how many of each, what is told twice, how deep. */
public final class TextBoundTest {
    private static final String COACH = "coach a yards 0;";
    private static final String PIE = "thing t pie secs 1 price 1 hot 0 cools 0;";
    private static final String BUYER = "buyer p pound coach a odds 0 dear 0 wants t;";
    private static final String ONE = COACH + PIE + BUYER;

    private TextBoundTest() {
    }

    public static void main(String[] args) {
        asInBrackets();
        onceTold();
        stops();
        things();
        buyers();
        lates();
        coachCounts();
        thingCounts();
        buyerCounts();
        wanted();
        names();
        depths();
        ordersEnd();
        daysNumbers();
        daysNames();
        daysLines();
        whatAJunctionClears();
        aSmallerOneBehind();
        Check.end("TextBoundTest");
    }

    private static void due(String what, long got, long want) {
        Check.due(what, got, want);
    }

    private static int fault(int kind, String before) {
        return kind + 16 * before.length();
    }

    private static void faulty(int kind, String before, String from) {
        due("junction " + before + "|" + from, Check.junction(new TeaJunction(), before + from), fault(kind, before));
    }

    private static void fine(String text) {
        faulty(0, "", text);
    }

    private static void daysFaulty(int kind, String before, String from) {
        due("days " + before + "|" + from, Check.days(Check.at(ONE), before + from), fault(kind, before));
    }

    /** Of a NUMBER from least to greatest: both are taken, and seen; next to them they are not as told. */
    private static void number(String before, int least, int greatest, String behind, Twin.Call seen) {
        for (int n : new int[] {least, least + 1, greatest - 1, greatest}) {
            TeaJunction x = new TeaJunction();
            due(before + n + behind, Check.junction(x, before + n + behind), 0);
            due(before + n + behind + " seen", seen.on(x), n);
        }
        faulty(4, before, greatest + 1 + behind);
        faulty(4, before, 9999 + behind);
        faulty(1, before, 10000 + behind);
        faulty(1, before, "-1" + behind);
        faulty(1, before, "a" + behind);
        faulty(1, before, ";");
        faulty(1, before, "");
        if (least > 0) {
            faulty(4, before, least - 1 + behind);
            faulty(4, before, "0000" + behind);
        }
    }

    private static void asInBrackets() {
        number("change ", 0, 60, ";" + ONE, TextBoundTest::change);
        number("lips ", 0, 99, ";" + ONE.replace("pie", "tea"), TextBoundTest::lips);
        number("sip ", 1, 120, ";change 0;" + ONE, x -> firstBell(x) - 1);
        number("pace ", 1, 30, ";" + ONE.replace("yards 0", "yards 10"), x -> x.buyer(0, 6));
        number("women ", 1, 2, ";", x -> x.count(6));
        // Where nothing is told: change 10, lips 60, sip 30, pace 5, two women, never late.
        TeaJunction x = Check.at(ONE.replace("pie", "tea").replace("yards 0", "yards 10"));
        due("change", change(x), 10);
        due("lips", lips(x), 60);
        due("pace", x.buyer(0, 6), 5);
        due("women", x.count(6), 2);
        due("stop", x.count(3), 600);
        due("bell", x.count(4), 540);
        due("sip", firstBell(Check.at(ONE)) - 11, 30);
        x = Check.at(ONE);
        Check.due("hot", x.heats(0, 50), true);
    }

    private static long change(TeaJunction x) {
        x.out(0, true);
        return x.served(0, 1) - x.served(0, 0) - x.thing(0, 1);
    }

    /** The hottest that he drinks though it cools by nothing. */
    private static long lips(TeaJunction x) {
        x.out(0, true);
        long hottest = -1;
        for (int hot = 0; hot <= 99; hot++) {
            x.heats(0, hot);
            if (x.round(1) == 1) {
                due("no heat between", hottest, hot - 1);
                hottest = hot;
            }
        }
        return hottest;
    }

    private static long firstBell(TeaJunction x) {
        x.out(0, true);
        return x.ring();
    }

    private static void onceTold() {
        String[] lines = {"stop 60 bell 1;", "women 1;", "change 0;", "lips 0;", "sip 1;", "pace 1;", "late 10 0 0 0;",
            "order 1;"};
        String all = String.join("", lines);
        fine(all);
        for (String line : lines) {
            faulty(3, line, line);
            faulty(3, all, line);
            faulty(3, line + ONE, line);
            // At its word, whatever stands behind it.
            faulty(3, line, line.substring(0, line.indexOf(' ')));
            faulty(3, line, line.substring(0, line.indexOf(' ')) + " ~");
            for (String other : lines) {
                if (!other.equals(line)) {
                    fine(line + other);
                }
            }
        }
        // Not coach, thing, buyer.
        fine(ONE + "coach b yards 0;thing u pie secs 1 price 1 hot 0 cools 0;buyer q plain coach b odds 0 dear 0 wants u;");
        // A line that has a FAULT is never told, nor is what stands behind it looked at.
        faulty(4, "women ", "3; women 1; women 1;");
    }

    private static void stops() {
        number("stop ", 60, 900, " bell 60;", x -> x.count(3));
        number("stop 60 bell ", 1, 60, ";", x -> x.count(4));
        number("stop 61 bell ", 1, 61, ";", x -> x.count(4));
        number("stop 900 bell ", 1, 900, ";", x -> x.count(4));
        faulty(1, "stop 60 ", ";");
        faulty(1, "stop 60 ", "60;");
        faulty(1, "stop 60 bell 60 ", "60;");
        faulty(1, "", "bell 60;");
    }

    private static void things() {
        number("coach a yards ", 0, 200, ";pace 10;" + PIE + BUYER, x -> x.buyer(0, 6));
        number("thing t tea secs ", 1, 60, " price 1 hot 0 cools 0;", x -> x.thing(0, 1));
        number("thing t tea secs 1 price ", 1, 99, " hot 0 cools 0;", x -> x.thing(0, 2));
        number("thing t tea secs 1 price 1 hot ", 0, 99, " cools 0;", x -> x.thing(0, 3));
        number("thing t tea secs 1 price 1 hot 0 cools ", 0, 20, ";", x -> x.thing(0, 4));
        String[] sorts = {"tea", "soup", "pie"};
        for (int sort = 0; sort < 3; sort++) {
            due(sorts[sort], Check.at("thing t " + sorts[sort] + " secs 1 price 1 hot 0 cools 0;").thing(0, 0), sort);
        }
        for (String none : new String[] {"plain", "secs", "t", "cake", "1", ";", ""}) {
            faulty(1, "thing t ", none);
        }
    }

    private static void buyers() {
        String before = COACH + PIE + "buyer p plain coach a odds ";
        number(before, 0, 10, " dear 0 wants t;", x -> x.buyer(0, 2));
        number(before + "0 dear ", 0, 99, " wants t;", x -> x.buyer(0, 3));
        String[] kinds = {"plain", "pound", "early"};
        for (int kind = 0; kind < 3; kind++) {
            due(kinds[kind], Check.at(ONE.replace("pound", kinds[kind])).buyer(0, 0), kind);
        }
        for (String none : new String[] {"tea", "coach", "p", "late", "1", ";", ""}) {
            faulty(1, COACH + PIE + "buyer p ", none);
        }
    }

    /** Of ten: 0 to 10 each, 10 together, the last one is wrong if they are not. */
    private static void lates() {
        int[][] right = {{10, 0, 0, 0}, {0, 10, 0, 0}, {0, 0, 10, 0}, {0, 0, 0, 10}, {1, 2, 3, 4}, {9, 0, 0, 1}};
        for (int[] n : right) {
            fine("late " + n[0] + " " + n[1] + " " + n[2] + " " + n[3] + ";");
        }
        faulty(4, "late ", "11 0 0 0;");
        faulty(4, "late 0 ", "11 0 0;");
        faulty(4, "late 0 0 ", "11 0;");
        faulty(4, "late 0 0 0 ", "11;");
        faulty(4, "late 10 10 ", "11 0;");
        // 9 and 11 together
        faulty(4, "late 9 0 0 ", "0;");
        faulty(4, "late 0 0 0 ", "9;");
        faulty(4, "late 10 0 0 ", "1;");
        faulty(4, "late 1 0 0 ", "10;");
        faulty(4, "late 5 5 1 ", "0;");
        faulty(4, "late 10 10 10 ", "0;");
        faulty(4, "late 10 10 10 ", "10;");
        faulty(4, "late 0 0 0 ", "0;");
        faulty(1, "late 10 10 10 ", ";");
        faulty(1, "late 10 0 0", ";");
        faulty(1, "late 10 0 0 0 ", "0;");
        faulty(1, "late ", ";");
    }

    private static String coaches(int many) {
        StringBuilder s = new StringBuilder();
        for (int i = 0; i < many; i++) {
            s.append("coach c").append((char) ('a' + i)).append(" yards ").append(10 * i).append(";");
        }
        return s.toString();
    }

    private static String things(int many) {
        StringBuilder s = new StringBuilder();
        for (int i = 0; i < many; i++) {
            s.append("thing t").append((char) ('a' + i)).append(" pie secs ").append(i + 1)
                    .append(" price 1 hot 0 cools 0;");
        }
        return s.toString();
    }

    private static String buyers(int many) {
        StringBuilder s = new StringBuilder();
        for (int i = 0; i < many; i++) {
            s.append("buyer b").append((char) ('a' + i)).append(" plain coach ca odds ").append(i)
                    .append(" dear 0 wants ta;");
        }
        return s.toString();
    }

    private static void coachCounts() {
        for (int many = 0; many <= 6; many++) {
            due("coaches", Check.at(coaches(many)).count(0), many);
        }
        faulty(5, coaches(6), "coach");
        faulty(5, coaches(6), "coach cg yards 0;");
        faulty(5, coaches(6), "coach ca yards 900;");
        faulty(5, coaches(6), "coach ~");
        faulty(3, coaches(5) + "coach ", "ca yards 0;");
        faulty(5, coaches(6) + things(5), "coach cg yards 0;");
        // Numbered as told: the sixth is 50 yards along.
        TeaJunction x = Check.at(coaches(6) + PIE + BUYER.replace("coach a", "coach cf"));
        due("the COACH", x.buyer(0, 1), 5);
        due("its WAY", x.buyer(0, 6), 25);
    }

    private static void thingCounts() {
        for (int many = 0; many <= 5; many++) {
            due("things", Check.at(things(many)).count(1), many);
        }
        TeaJunction x = Check.at(things(5));
        for (int i = 0; i < 5; i++) {
            due("numbered as told", x.thing(i, 1), i + 1);
        }
        due("no sixth", x.thing(5, 1), -1);
        faulty(5, things(5), "thing");
        faulty(5, things(5), "thing tf pie secs 1 price 1 hot 0 cools 0;");
        faulty(5, things(5), "thing ta pie secs 0");
        faulty(3, things(4) + "thing ", "ta pie secs 0");
        faulty(5, coaches(6) + things(5) + "women 1;", "thing tf");
    }

    private static void buyerCounts() {
        for (int many = 0; many <= 6; many++) {
            due("buyers", Check.at(coaches(1) + things(1) + buyers(many)).count(2), many);
        }
        String all = coaches(6) + things(5) + buyers(6);
        TeaJunction x = Check.at(all);
        for (int i = 0; i < 6; i++) {
            due("numbered as told", x.buyer(i, 2), i);
        }
        due("no seventh", x.buyer(6, 2), -1);
        due("coaches", x.count(0), 6);
        due("things", x.count(1), 5);
        faulty(5, all, "buyer");
        faulty(5, all, "buyer bg plain coach ca odds 0 dear 0 wants ta;");
        faulty(5, all, "buyer ba");
        faulty(3, coaches(6) + things(5) + buyers(5) + "buyer ", "ba");
        faulty(1, all, "bell 1;");
    }

    private static void wanted() {
        String before = coaches(1) + things(5) + "buyer p plain coach ca odds 0 dear 0 wants ";
        due("one", Check.at(before + "te;").buyer(0, 4), 16);
        due("two", Check.at(before + "te ta;").buyer(0, 4), 17);
        due("three", Check.at(before + "tc tb td;").buyer(0, 4), 14);
        faulty(1, before, ";");
        faulty(1, before, "");
        faulty(5, before + "ta tb tc ", "td;");
        faulty(5, before + "ta tb tc ", "td td te;");
        // Of a fourth one what is wrong the least: no NAME, of no THING, told already, then one too many.
        faulty(1, before + "ta tb tc ", "1;");
        faulty(1, before + "ta tb tc ", "wants;");
        faulty(2, before + "ta tb tc ", "p;");
        faulty(2, before + "ta tb tc ", "tf;");
        faulty(3, before + "ta tb tc ", "ta;");
        faulty(3, before + "ta tb tc ", "tc;");
        faulty(3, before + "ta ", "ta;");
        faulty(3, before + "ta tb ", "ta;");
        faulty(2, before, "ca;");
        faulty(2, before + "ta ", "x;");
        faulty(1, before, "tea;");
    }

    private static void names() {
        String[] kept = {"stop", "bell", "coach", "yards", "thing", "secs", "price", "hot", "cools", "buyer", "odds",
            "dear", "wants", "women", "change", "lips", "sip", "pace", "late", "order", "out", "in", "urn", "run", "tea",
            "soup", "pie", "plain", "pound", "early", "not", "and", "or"};
        String thing = " pie secs 1 price 1 hot 0 cools 0;";
        for (String word : kept) {
            faulty(1, "coach ", word + " yards 0;");
            faulty(1, "thing ", word + thing);
            faulty(1, COACH + PIE + "buyer ", word + " plain coach a odds 0 dear 0 wants t;");
            faulty(1, COACH + PIE + "buyer p plain coach ", word + " odds 0 dear 0 wants t;");
            faulty(1, COACH + PIE + "buyer p plain coach a odds 0 dear 0 wants ", word + ";");
            daysFaulty(1, "out ", word + ";");
            daysFaulty(1, "in ", word + ";");
            daysFaulty(1, "hot ", word + " 1;");
            // One letter more or less is another WORD, and a NAME.
            fine("coach " + word + "x yards 0;");
        }
        for (String fact : new String[] {"far", "waits", "exact", "many"}) {
            fine("coach " + fact + " yards 0;" + PIE + BUYER.replace("coach a", "coach " + fact) + "order " + fact + ";");
            fine("thing " + fact + thing + COACH + BUYER.replace("wants t", "wants " + fact));
            TeaJunction x = Check.at(COACH + PIE + BUYER.replace("buyer p", "buyer " + fact));
            due("out " + fact, Check.days(x, "out " + fact + ";"), 0);
        }
        // No two are alike, of whatever they are the NAMES.
        faulty(3, COACH + "coach ", "a yards 0;");
        faulty(3, COACH + "thing ", "a" + thing);
        faulty(3, ONE + "buyer ", "a plain");
        faulty(3, ONE + "buyer ", "t plain");
        faulty(3, ONE + "buyer ", "p plain");
        faulty(3, ONE + "coach ", "t yards 0;");
        faulty(3, ONE + "coach ", "p yards 0;");
        faulty(3, ONE + "thing ", "t" + thing);
        faulty(3, ONE + "thing ", "p" + thing);
        // Told ahead of where it is used.
        faulty(2, PIE + "buyer p plain coach ", "a odds 0 dear 0 wants t;" + COACH);
        faulty(2, COACH + "buyer p plain coach a odds 0 dear 0 wants ", "t;" + PIE);
        faulty(2, COACH + PIE + "buyer p plain coach ", "t odds");
        faulty(2, COACH + PIE + "buyer p plain coach ", "p odds");
        faulty(2, COACH + PIE + "buyer p plain coach ", "b odds");
    }

    /** Within four of not and ( ) a PART may lie, within five not: of each mixture of the two. */
    private static void depths() {
        for (int mixture = 0; mixture < 32; mixture++) {
            for (int many = 1; many <= 5; many++) {
                StringBuilder before = new StringBuilder("order ");
                StringBuilder behind = new StringBuilder();
                for (int i = 0; i < many; i++) {
                    boolean not = (mixture >> i & 1) != 0;
                    before.append(not ? "not " : "(");
                    behind.append(not ? "" : ")");
                }
                int kind = many == 5 ? 5 : 0;
                String from = kind == 0 ? before.toString() : "";
                String head = kind == 0 ? "" : before.toString();
                for (String part : new String[] {"1", "far", "many"}) {
                    faulty(kind, head, from + part + behind + ";");
                }
                String inner = many == 4 ? before.toString() : head;
                if (many >= 4) {
                    // A not or a ( is a PART itself: as the fifth it is fine, what lies within it is not.
                    faulty(5, inner + (many == 4 ? "not " : ""), many == 4 ? "1" : "not 1");
                    faulty(5, inner + (many == 4 ? "(" : ""), many == 4 ? "1)" : "(1)");
                }
                if (many == 5) {
                    faulty(1, head, ";");
                    faulty(1, head, ")");
                    faulty(1, head, "and 1");
                    faulty(1, head, "a");
                    faulty(1, head, "10000");
                }
            }
        }
        // It is how deep, not how many: behind ) one is out of it again.
        fine("order ((((1))))+((((2))))*not not not not 3;");
        faulty(5, "order ((((1))))+(((((", "2)))));");
        faulty(5, "order ((((1+1 and (", "2)))));");
        faulty(5, "order not (not (1 + 2 * (", "3)));");
        faulty(5, "order ((((1 < (", "2)))));");
    }

    private static void ordersEnd() {
        fine("order 1;");
        faulty(1, "order ", ";");
        faulty(1, "order 1 + ", ";");
        faulty(1, "order 1 and ", ";");
        faulty(1, "order not ", ";");
        faulty(1, "order ( ", ");");
        faulty(1, "order (1", ";");
        faulty(1, "order 1 < 2 ", "< 3;");
        faulty(1, "order 1 < 2 ", "= 3;");
        faulty(1, "order 1 = 2 ", "= 3;");
        fine("order (1 < 2) < 3;");
        fine("order 1 < 2 and 2 < 3 or 3 = 3;");
        faulty(1, "order 1 ", "far;");
        faulty(1, "order ", "p;");
        faulty(1, "order ", "stop;");
        faulty(1, "order ", "- 1;");
        faulty(1, "order 1 * ", "- 1;");
        // As many as the TAPE has room for.
        fine("order 1" + "+1".repeat(496) + ";");
        fine("order 1" + "*1".repeat(496) + ";");
        fine("order 1" + "or 1".repeat(248) + ";");
        fine("order " + "not(not(1))+".repeat(82) + "1;");
    }

    private static long judgedBell(TeaJunction x) {
        return x.judged(0);
    }

    private static void daysNumber(String before, int least, int greatest) {
        for (int n : new int[] {least, least + 1, greatest - 1, greatest}) {
            daysFaulty(0, "", before + n + ";");
        }
        daysFaulty(4, before, greatest + 1 + ";");
        daysFaulty(4, before, "9999;");
        daysFaulty(1, before, "10000;");
        daysFaulty(1, before, "-1;");
        daysFaulty(1, before, "p;");
        daysFaulty(1, before, ";");
        daysFaulty(1, before, "");
        if (least > 0) {
            daysFaulty(4, before, least - 1 + ";");
        }
    }

    private static void daysNumbers() {
        daysNumber("bell ", 1, 900);
        daysNumber("urn ", 0, 200);
        daysNumber("women ", 1, 2);
        daysNumber("hot t ", 0, 99);
        // The bell is told to 900 whatever the stop is: beyond it, it changes nothing.
        TeaJunction x = Check.at("stop 60 bell 1;");
        due("days", Check.days(x, "bell 60; bell 61;"), 0);
        due("60 changes", judgedBell(x), 1);
        due("days", Check.days(x, "bell 900;"), 0);
        due("900 does not", judgedBell(x), 0);
    }

    private static void daysNames() {
        daysFaulty(0, "", "out p;in p;hot t 1;");
        daysFaulty(2, "out ", "t;");
        daysFaulty(2, "out ", "a;");
        daysFaulty(2, "out ", "q;");
        daysFaulty(2, "in ", "t;");
        daysFaulty(2, "in ", "q;");
        daysFaulty(2, "hot ", "p 1;");
        daysFaulty(2, "hot ", "a 1;");
        daysFaulty(2, "hot ", "u 1;");
        daysFaulty(1, "out ", "1;");
        daysFaulty(1, "out ", ";");
        daysFaulty(1, "out p ", "p;");
        daysFaulty(1, "run ", "p;");
        daysFaulty(1, "", "stop 60 bell 1;");
        daysFaulty(1, "", "lips 1;");
        daysFaulty(1, "", "p;");
        daysFaulty(1, "run;", ";");
        TeaJunction x = new TeaJunction();
        due("of nobody", Check.days(x, "out p;"), 2 + 16 * 4);
        due("of nothing", Check.days(x, "hot t 1;"), 2 + 16 * 4);
        due("a run of nobody", Check.days(x, "run; bell 1; urn 1; women 1;"), 0);
        due("is idle", x.judged(0), 0);
    }

    private static void daysLines() {
        TeaJunction x = Check.at(ONE);
        for (int many : new int[] {0, 1, 39, 40}) {
            due("days", Check.days(x, "run;".repeat(many)), 0);
            due("lines", x.count(8), many);
        }
        for (String line : new String[] {"out p;", "in p;", "bell 1;", "urn 1;", "women 1;", "hot t 1;", "run;"}) {
            due("41", Check.days(x, line.repeat(41)), 5 + 16 * 40 * line.length());
            due("40 stay", x.count(8), 40);
            due("40", Check.days(x, line.repeat(40)), 0);
            // Wrong at its first word only if that is one; whatever stands behind it.
            daysFaulty(5, "run;".repeat(40), line.substring(0, 2).equals("in") ? "in" : line.replace(";", ""));
            daysFaulty(5, "run;".repeat(40), line.replaceAll(" .*|;", "") + " ~");
        }
        daysFaulty(1, "run;".repeat(40), "walk;");
        daysFaulty(1, "run;".repeat(40), "p;");
        daysFaulty(1, "run;".repeat(40), "1;");
        daysFaulty(1, "run;".repeat(40), ";");
        daysFaulty(4, "run;".repeat(39) + "bell ", "901;");
        // The fortieth counts: the one who gets out there is judged.
        x = Check.at(ONE);
        due("days", Check.days(x, "out p;" + "run;".repeat(38) + "run;"), 0);
        due("39 runs", x.judged(2), 39);
    }

    private static void whatAJunctionClears() {
        TeaJunction x = Lived.withTape();
        x.days();
        due("told again", Check.junction(x, Lived.JUNCTION), 0);
        Twin.same("a JUNCTION told again", x, Check.at(Lived.JUNCTION));
        x = Lived.made();
        due("an empty one", x.junction(), 0);
        Twin.same("an empty JUNCTION", x, new TeaJunction());
        x = Lived.made();
        due("a line alone", Check.junction(x, "women 2;"), 0);
        Twin.same("what is told in brackets", x, new TeaJunction());
        // DAYS told again are the DAYS: none of those before stays, all else does.
        x = Lived.made();
        due("days", Check.days(x, "run;"), 0);
        due("one line", x.count(8), 1);
        due("idle, as nobody is out in the morning", x.judged(0), 0);
        due("nothing drunk", x.judged(2), 0);
        int[] counts = {2, 3, 3, 300, 200, 30, 2, 5, 1, 2, 2, 7, 0};
        for (int i = 0; i < counts.length; i++) {
            due("count(" + i + ")", x.count(i), counts[i]);
        }
    }

    /** Of larger JUNCTIONS ahead of it nothing is left: no NAME, no order, no late, nothing wanted, nothing LEFT. */
    private static void aSmallerOneBehind() {
        String large = "stop 300 bell 8; women 2; change 9; lips 9; sip 9; pace 9; late 0 2 3 5; order 0-far;"
                + "coach z yards 1; coach y yards 2; coach w yards 3; coach v yards 4;"
                + "thing zz pie secs 9 price 9 hot 9 cools 9; thing yy tea secs 8 price 8 hot 8 cools 8;"
                + "thing ww soup secs 7 price 7 hot 7 cools 7; buyer zzz early coach y odds 9 dear 9 wants yy zz ww;"
                + "buyer yyy early coach y odds 9 dear 9 wants zz yy ww;buyer www early coach v odds 1 dear 1 wants ww;"
                + "buyer vvv early coach v odds 9 dear 9 wants zz;";
        String small = "women 1; pace 10; coach a yards 0; coach b yards 10; coach c yards 11;"
                + "thing t tea secs 20 price 4 hot 20 cools 1; thing u pie secs 20 price 5 hot 0 cools 0;"
                + "buyer o plain coach a odds 5 dear 3 wants u; buyer p plain coach b odds 5 dear 3 wants u;"
                + "buyer q plain coach c odds 5 dear 3 wants t;";
        TeaJunction x = afterLarge(large, small);
        Twin.same("a smaller one", x, Check.at(small));
        x = afterLarge(large, small);
        due("wants u alone", x.buyer(0, 4), 2);
        due("wants t alone", x.buyer(2, 4), 1);
        for (int i = 0; i < 3; i++) {
            Check.due("out", x.out(i, true), true);
        }
        due("no order: p", x.served(1, 0), 20);
        due("no order: q", x.served(2, 0), 40);
        due("nothing LEFT", x.round(2), 0);
        due("pence", x.round(0), 14);
        due("never late: it is 20 yet", x.ahead(0, 1), 3000);
        due("out of one of the former", Check.days(x, "out vvv;"), fault(2, "out "));
        due("out of one of the former", Check.days(x, "out zzz;"), fault(2, "out "));
        due("hot of one of the former", Check.days(x, "hot ww 5;"), fault(2, "hot "));
        String one = "coach a yards 0; thing t pie secs 1 price 1 hot 0 cools 0;";
        x = afterLarge(large, one);
        String ahead = "thing t pie secs 1 price 1 hot 0 cools 0; coach a yards 0; buyer p plain coach ";
        due("a COACH of the former", Check.junction(x, ahead + "y odds 0 dear 0 wants t;"), fault(2, ahead));
        ahead += "a odds 0 dear 0 wants ";
        due("a THING of the former", Check.junction(x, ahead + "yy;"), fault(2, ahead));
        due("their NAMES are free", Check.junction(x, large), 0);
    }

    /** Twice, as there might be two of them by turns. */
    private static TeaJunction afterLarge(String large, String text) {
        TeaJunction x = new TeaJunction();
        for (int i = 0; i < 2; i++) {
            due("a large one", Check.junction(x, large), 0);
            for (int who = 0; who < 4; who++) {
                Check.due("out", x.out(who, true), true);
            }
            due("www, vvv at 0, zzz at 7, too late to drink", x.round(2), 5);
        }
        due("then " + text, Check.junction(x, text), 0);
        return x;
    }
}
