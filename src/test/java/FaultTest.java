/** FAULTS: each kind, and what is the least wrong at one token. The place is where the mark | stands. */
public final class FaultTest {
    private static final String C = "coach a yards 0;";
    private static final String T = "thing t tea secs 1 price 1 hot 0 cools 0;"
            + "thing u soup secs 60 price 99 hot 99 cools 20;thing v pie secs 1 price 1 hot 0 cools 0;"
            + "thing w pie secs 1 price 1 hot 0 cools 0;";
    private static final String B = "buyer b plain coach a odds 0 dear 0 wants t;";

    private FaultTest() {
    }

    public static void main(String[] args) {
        tokens();
        onceTold();
        numbers();
        names();
        wants();
        tooMany();
        orders();
        daysLines();
        Check.end("FaultTest");
    }

    private static int code(int kind, String marked) {
        return kind == 0 ? 0 : kind + 16 * marked.indexOf('|');
    }

    private static String plain(String marked) {
        return marked.replace("|", "");
    }

    private static void junction(int kind, String marked) {
        Check.due("junction " + marked, Check.junction(new TeaJunction(), plain(marked)), code(kind, marked));
    }

    private static void days(int kind, String marked) {
        TeaJunction x = new TeaJunction();
        Check.due("before it", Check.junction(x, C + T + B), 0);
        Check.due("days " + marked, Check.days(x, plain(marked)), code(kind, marked));
    }

    private static void tokens() {
        junction(0, "");
        junction(0, " \n \n");
        junction(0, "women1;lips\n0\n;sip 1;pace0030;");
        junction(0, "stop60bell60;");
        junction(1, "women 1|");
        junction(1, "women 1  |");
        junction(1, "women |");
        junction(1, "women |;");
        junction(1, "|;");
        junction(1, "|5;");
        junction(1, "|walk;");
        junction(1, "|yards 5;");
        junction(1, "|run;");
        junction(1, "|Women 1;");
        junction(1, "women |00001;");
        junction(1, "women 1|!");
        junction(1, "women 1;|~");
        junction(1, "|abcdefghi;");
        junction(1, "coach |abcdefghi yards 1;");
        junction(0, "coach abcdefgh yards 1;");
        junction(1, "women 1 |1;");
        junction(1, "women |(1);");
        junction(1, "|womenwom 1;");
        junction(1, "|womenwomen 1;");
    }

    private static void onceTold() {
        for (String line : new String[] {"stop 60 bell 1;", "women 1;", "change 0;", "lips 0;", "sip 1;", "pace 1;",
            "late 10 0 0 0;", "order 1;"}) {
            junction(3, line + "|" + line);
            junction(3, line + C + "|" + line.substring(0, line.indexOf(' ')));
        }
        junction(3, "women 1;lips 1;sip 1;|women 1;");
        junction(3, "order 1;lips 1;women 1;|order 1;");
        junction(0, "order 1;late 0 0 0 10;pace 30;sip 120;lips 99;change 60;women 2;stop 900 bell 900;");
        junction(1, "stop 60 |bel 1;");
        junction(1, "stop 60 bell 1 |1;");
    }

    private static void number(String line, int low, int high) {
        junction(0, line.replace("N", "" + low));
        junction(0, line.replace("N", "" + high));
        junction(low > 0 ? 4 : 1, line.replace("N", low > 0 ? "|" + (low - 1) : "|-1"));
        junction(4, line.replace("N", "|" + (high + 1)));
        junction(4, line.replace("N", "|9999"));
        junction(1, line.replace("N", "|far"));
        junction(1, line.replace("N", "|10000"));
    }

    private static void numbers() {
        number("stop N bell 1;", 60, 900);
        number("stop 70 bell N;", 1, 70);
        number("women N;", 1, 2);
        number("change N;", 0, 60);
        number("lips N;", 0, 99);
        number("sip N;", 1, 120);
        number("pace N;", 1, 30);
        number("coach c yards N;", 0, 200);
        number("thing c tea secs N price 1 hot 0 cools 0;", 1, 60);
        number("thing c tea secs 1 price N hot 0 cools 0;", 1, 99);
        number("thing c tea secs 1 price 1 hot N cools 0;", 0, 99);
        number("thing c tea secs 1 price 1 hot 0 cools N;", 0, 20);
        number(C + T + "buyer c plain coach a odds N dear 0 wants t;", 0, 10);
        number(C + T + "buyer c plain coach a odds 0 dear N wants t;", 0, 99);
        junction(4, "late |11 0 0 0;");
        junction(4, "late 10 |11 0 0;");
        junction(4, "late 10 10 |11 0;");
        junction(4, "late 10 10 10 |0;");
        junction(4, "late 5 5 1 |0;");
        junction(4, "late 5 4 0 |0;");
        junction(4, "late 5 4 0 |2;");
        junction(4, "late 0 0 0 |11;");
        junction(1, "late 10 10 10 |;");
        junction(1, "late 10 0 0|;");
        junction(0, "late 0 0 0 10;");
        junction(0, "late 1 2 3 4;");
    }

    private static void names() {
        junction(3, C + "coach |a yards 900;");
        junction(3, C + "thing |a tea");
        junction(3, C + T + "buyer |t plain");
        junction(3, C + T + B + "coach |b yards 0;");
        junction(3, C + T + B + "buyer |b plain");
        for (String kept : new String[] {"stop", "bell", "coach", "yards", "thing", "secs", "price", "hot", "cools",
            "buyer", "odds", "dear", "wants", "women", "change", "lips", "sip", "pace", "late", "order", "out", "in",
            "urn", "run", "tea", "soup", "pie", "plain", "pound", "early", "not", "and", "or"}) {
            junction(1, "coach |" + kept + " yards 1;");
            junction(1, C + "thing |" + kept + " tea");
        }
        for (String free : new String[] {"far", "waits", "exact", "many", "cake", "i", "n", "stopp"}) {
            junction(0, "coach " + free + " yards 1;");
        }
        junction(1, "coach |5 yards 1;");
        junction(1, "coach c |yard 1;");
        junction(1, "thing c |cake secs 1");
        junction(1, "thing c |plain secs 1");
        junction(1, "thing c tea |price 1");
        junction(1, C + T + "buyer c |tea coach a");
        junction(1, C + T + "buyer c early |a");
        junction(2, C + T + "buyer c early coach |b");
        junction(2, C + T + "buyer c early coach |t odds 1");
        junction(2, C + T + "buyer c early coach |c odds 1");
        junction(2, C + T + B + "buyer c early coach |b odds 1");
        junction(1, C + T + "buyer c early coach |tea odds 1");
        junction(1, C + T + "buyer c early coach |1 odds 1");
        junction(2, T + "buyer c early coach |d odds 1;" + "coach d yards 1;");
    }

    private static void wants() {
        String head = C + T + "buyer c pound coach a odds 1 dear 1 wants ";
        junction(0, head + "t;");
        junction(0, head + "w v u;");
        junction(1, head + "|;");
        junction(1, head + "|5;");
        junction(2, head + "|a;");
        junction(2, head + "|c;");
        junction(2, head + "t |b;");
        junction(3, head + "t |t;");
        junction(3, head + "t u |t;");
        junction(5, head + "t u v |w;");
        junction(3, head + "t u v |v;");
        junction(2, head + "t u v |x;");
        junction(1, head + "t u v |tea;");
        junction(1, head + "t u v |not;");
        junction(1, head + "t |1;");
        junction(1, head + "t u v|");
        junction(1, head + "t |wants;");
    }

    private static void tooMany() {
        StringBuilder s = new StringBuilder();
        for (char c = 'a'; c < 'g'; c++) {
            s.append("coach c").append(c).append(" yards 1;");
        }
        junction(0, s.toString());
        junction(5, s + "|coach");
        s.append("thing t tea secs 1 price 1 hot 1 cools 1;");
        for (char c = 'a'; c < 'e'; c++) {
            s.append("thing t").append(c).append(" tea secs 1 price 1 hot 1 cools 1;");
        }
        junction(0, s.toString());
        junction(5, s + "|thing t");
        s = new StringBuilder(C + "thing t tea secs 1 price 1 hot 1 cools 1;");
        for (char c = 'a'; c < 'g'; c++) {
            s.append("buyer b").append(c).append(" plain coach a odds 1 dear 1 wants t;");
        }
        junction(0, s.toString());
        junction(5, s + "|buyer ;");
    }

    private static void orders() {
        junction(0, "order far+waits*exact-many<5 and 3=4 or not not (1);");
        junction(0, "order ((((1))));");
        junction(0, "order (not(not 1))+((((2))))*not not not not 3;");
        junction(5, "order (((((|1)))));");
        junction(5, "order not not not not not |1;");
        junction(5, "order not not not not not |not 1;");
        junction(5, "order not not not not not |(1);");
        junction(5, "order (not (not (|far + 1)));");
        junction(1, "order (((((|;");
        junction(1, "order (((((|odds;");
        junction(1, "order not not not not not |+;");
        junction(1, "order |;");
        junction(1, "order |odds;");
        junction(1, "order |and;");
        junction(1, "order |-1;");
        junction(1, "order |);");
        junction(1, "order 1|);");
        junction(1, "order (1|;");
        junction(1, "order 1+|;");
        junction(1, "order 1 <|;");
        junction(1, "order 1 < 2 |< 3;");
        junction(1, "order 1 = 2 |= 3;");
        junction(1, "order 1 < 2 |= 3;");
        junction(0, "order 1 < 2 and 2 < 3;");
        junction(1, "order 1 |2;");
        junction(1, "order 1 |not 2;");
        junction(1, "order 1 * |* 2;");
        junction(1, "order 1 and |or 2;");
        junction(1, "order far |far;");
        junction(1, "order |10000;");
        junction(0, "order 9999;");
        junction(1, C + "order |a;");
        junction(1, "order 1|");
    }

    private static void daysLines() {
        days(0, "");
        days(0, "out b;in b;bell 1;bell 900;urn 0;urn 200;women 1;women 2;hot t 0;hot v 99;run;run;");
        days(1, "|walk;");
        days(1, "|stop 60;");
        days(1, "|coach;");
        days(1, "|b;");
        days(1, "|1;");
        days(1, "|;");
        days(1, "run|");
        days(1, "run |run;");
        days(1, "run |1;");
        days(1, "out |run;");
        days(1, "out |5;");
        days(1, "out |;");
        days(2, "out |t;");
        days(2, "out |a;");
        days(2, "in |nobody;");
        days(2, "hot |b 5;");
        days(2, "hot |a 5;");
        days(1, "hot |tea 5;");
        days(1, "hot t|;");
        days(4, "hot t |100;");
        days(4, "bell |0;");
        days(4, "bell |901;");
        days(4, "urn |201;");
        days(4, "women |0;");
        days(4, "women |3;");
        days(1, "bell |b;");
        days(1, "out b |b;");
        String forty = "run;".repeat(40);
        days(0, forty);
        days(5, forty + "|run;");
        days(5, forty + "|out nobody;");
        days(1, forty + "|walk;");
        days(1, forty + "|;");
        TeaJunction y = new TeaJunction();
        Check.due("longer", Check.junction(y, "women 11111;"), 1 + 16 * 6);
        Check.due("what stood behind the end is gone", Check.junction(y, "women 1"), 1 + 16 * 7);
        Check.due("longer", Check.junction(y, "womenwomen"), 1);
        Check.due("letters, too", Check.junction(y, "women"), 1 + 16 * 5);
        TeaJunction x = new TeaJunction();
        Check.due("of no junction told", Check.days(x, "run;out b;"), 2 + 16 * 8);
    }
}
