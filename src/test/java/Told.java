/** Short ways to tell a JUNCTION line by line, for the tests that extend it. */
abstract class Told {
    Told() {
    }

    static void due(String what, long got, long want) {
        Check.due(what, got, want);
    }

    static void yes(String what, boolean got) {
        Check.due(what, got, true);
    }

    static void no(String what, boolean got) {
        Check.due(what, got, false);
    }

    static String coach(String name, int yards) {
        return "coach " + name + " yards " + yards + ";";
    }

    static String pie(String name, int secs) {
        return pie(name, secs, 1);
    }

    static String pie(String name, int secs, int price) {
        return "thing " + name + " pie secs " + secs + " price " + price + " hot 0 cools 0;";
    }

    static String tea(String name, int secs, int hot, int cools) {
        return tea(name, secs, 1, hot, cools);
    }

    static String tea(String name, int secs, int price, int hot, int cools) {
        return "thing " + name + " tea secs " + secs + " price " + price + " hot " + hot + " cools " + cools + ";";
    }

    static String buyer(String name, String kind, String coach, String wants) {
        return buyer(name, kind, coach, 0, 0, wants);
    }

    static String buyer(String name, String kind, String coach, int odds, int dear, String wants) {
        return "buyer " + name + " " + kind + " coach " + coach + " odds " + odds + " dear " + dear + " wants " + wants
                + ";";
    }

    static TeaJunction allOut(String text) {
        TeaJunction x = Check.at(text);
        for (int i = 0; i < x.count(2); i++) {
            yes("out", x.out(i, true));
        }
        return x;
    }
}
