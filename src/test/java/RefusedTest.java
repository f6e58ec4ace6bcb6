/** Each wrong argument, next to the bounds and far off: what is answered, and that nothing else has changed. */
public final class RefusedTest {
    private static final int LEAST = Integer.MIN_VALUE;
    private static final int GREATEST = Integer.MAX_VALUE;
    private static final int[] NO_THINGS = {LEAST, -1, 3, 5, GREATEST};
    private static final int[] NO_BUYERS = {LEAST, -1, 3, 6, 31, 32, GREATEST};

    private RefusedTest() {
    }

    public static void main(String[] args) {
        feeding();
        faults();
        thingsAndBuyers();
        byHand();
        roundsAndDays();
        chancesAndRests();
        errandsAndTables();
        heats();
        trays();
        ahead();
        soldAndSeen();
        yearsMarksCounts();
        questions();
        Check.end("RefusedTest");
    }

    private static void still(String what, Twin.Call call, long due) {
        Twin.still(what, Lived::withTape, call, due);
    }

    private static int[] outside(int low, int high) {
        return new int[] {LEAST, low - 1, high + 1, GREATEST};
    }

    private static void feeding() {
        int on = Lived.ON_TAPE.length();
        still("feed of nothing", x -> x.feed(0, 0, 0), on);
        still("feed of 255s", x -> x.feed(-1, -1, -1), on);
        still("feed of 9, 11, 31, 127, 128", x -> x.feed(0x090b1f7f80L, 0x090b1f7f80000000L, 0x8a8a8aa0a0fefeffL), on);
        Twin.still("feed to a full TAPE", RefusedTest::full, x -> x.feed(0x2020202020202020L, 10, 0x41), 1000);
    }

    private static TeaJunction full() {
        TeaJunction x = Lived.made();
        Check.feed(x, "run;".repeat(24) + " ".repeat(904));
        Check.due("full", x.count(12), 1000);
        return x;
    }

    private static void fault(String text, long due) {
        Twin.still("junction " + text, Lived::made, x -> Check.junction(x, text), due);
    }

    private static void daysFault(String text, long due) {
        Twin.still("days " + text, Lived::made, x -> Check.days(x, text), due);
    }

    private static void faults() {
        // All of another JUNCTION, and a FAULT at its very end.
        String other = "stop 60 bell 1; women 1; change 0; lips 0; sip 1; pace 1; late 0 0 0 10; order 1; coach z yards 9;"
                + "thing y tea secs 9 price 9 hot 9 cools 9; buyer x plain coach z odds 9 dear 9 wants y;";
        int end = 16 * other.length();
        fault(other + "~", 1 + end);
        fault(other + "coach", 1 + end + 16 * 5);
        fault(other + "buyer w plain coach y odds 1", 2 + end + 16 * 20);
        fault(other + "women 2;", 3 + end);
        fault(other + "coach v yards 201;", 4 + end + 16 * 14);
        fault(other + "order (((((1)))));", 3 + end);
        fault("order (((((1)))));", 5 + 16 * 11);
        fault("women 2;" + other, 3 + 16 * 24);
        daysFault("out ann; in bob; bell 7; urn 7; women 1; hot cha 7; run; ;", 1 + 16 * 57);
        daysFault("run; out ann; run", 1 + 16 * 17);
        daysFault("run; in dan;", 2 + 16 * 8);
        daysFault("run; bell 901;", 4 + 16 * 10);
        daysFault("run;".repeat(40) + "run;", 5 + 16 * 160);
    }

    private static void thingsAndBuyers() {
        for (int thing : NO_THINGS) {
            for (int what = -1; what <= 5; what++) {
                int asked = what;
                still("thing(" + thing + ", " + what + ")", x -> x.thing(thing, asked), -1);
            }
        }
        for (int what : outside(0, 4)) {
            still("thing(0, " + what + ")", x -> x.thing(0, what), -1);
            still("thing(2, " + what + ")", x -> x.thing(2, what), -1);
        }
        for (int buyer : NO_BUYERS) {
            for (int what = -1; what <= 8; what++) {
                int asked = what;
                still("buyer(" + buyer + ", " + what + ")", x -> x.buyer(buyer, asked), -1);
            }
        }
        for (int what : outside(0, 7)) {
            still("buyer(0, " + what + ")", x -> x.buyer(0, what), -1);
            still("buyer(2, " + what + ")", x -> x.buyer(2, what), -1);
        }
    }

    private static void byHand() {
        for (int buyer : NO_BUYERS) {
            still("out(" + buyer + ", true)", x -> Twin.of(x.out(buyer, true)), 0);
            still("out(" + buyer + ", false)", x -> Twin.of(x.out(buyer, false)), 0);
        }
        still("out already", x -> Twin.of(x.out(0, true)), 0);
        still("in already", x -> Twin.of(x.out(1, false)), 0);
        for (int what : outside(0, 2)) {
            for (int to = -1; to <= 3; to++) {
                int asked = to;
                still("set(" + what + ", " + to + ")", x -> Twin.of(x.set(what, asked)), 0);
            }
        }
        int[][] bad = {{LEAST, -1, 0, 200, 301, 900, GREATEST}, {LEAST, -1, 30, 201, GREATEST},
            {LEAST, -1, 0, 2, 3, GREATEST}};
        for (int what = 0; what < 3; what++) {
            for (int to : bad[what]) {
                int asked = what;
                still("set(" + what + ", " + to + ")", x -> Twin.of(x.set(asked, to)), 0);
            }
        }
        for (int thing : NO_THINGS) {
            still("heats(" + thing + ", 50)", x -> Twin.of(x.heats(thing, 50)), 0);
        }
        for (int hot : new int[] {LEAST, -1, 80, 100, GREATEST}) {
            still("heats(0, " + hot + ")", x -> Twin.of(x.heats(0, hot)), 0);
        }
        Twin.still("undo of nothing", () -> Check.at(Lived.JUNCTION), x -> Twin.of(x.undo()), 0);
        Twin.still("undo on a new object", TeaJunction::new, x -> Twin.of(x.undo()), 0);
    }

    private static void roundsAndDays() {
        for (int what : outside(0, 2)) {
            still("judged(" + what + ")", x -> x.judged(what), -2);
        }
        for (int buyer : NO_BUYERS) {
            still("served(" + buyer + ", 0)", x -> x.served(buyer, 0), -2);
            still("served(" + buyer + ", 4)", x -> x.served(buyer, 4), -2);
        }
        for (int what = -1; what <= 5; what++) {
            int asked = what;
            still("served of one who is in, " + what, x -> x.served(1, asked), -2);
        }
        for (int what : outside(0, 4)) {
            still("served(0, " + what + ")", x -> x.served(0, what), -2);
            still("round(" + what + ")", x -> x.round(what), -1);
        }
    }

    private static void chancesAndRests() {
        for (int buyer : NO_BUYERS) {
            still("chance(" + buyer + ")", x -> x.chance(buyer), -1);
        }
        for (int buyers : new int[] {LEAST, LEAST + 1, -1, 0, 8, 9, 15, 64, GREATEST}) {
            still("rests(" + buyers + ", -1)", x -> Check.rests(x, buyers, -1), Check.THREW);
            still("rests(" + buyers + ", 0)", x -> Check.rests(x, buyers, 0), Check.THREW);
        }
        for (int what : new int[] {LEAST, -2, 1, GREATEST}) {
            still("rests(1, " + what + ")", x -> Check.rests(x, 1, what), Check.THREW);
        }
    }

    private static void errandsAndTables() {
        for (int buyers : new int[] {LEAST, LEAST + 1, -1, 0, 8, 9, 15, 64, GREATEST}) {
            for (int what = -1; what <= 3; what++) {
                int asked = what;
                still("errand(" + buyers + ", " + what + ")", x -> x.errand(buyers, asked), -1);
            }
        }
        for (int what : outside(0, 2)) {
            still("errand(7, " + what + ")", x -> x.errand(7, what), -1);
        }
        for (int rule = -1; rule <= 3; rule++) {
            for (int women : outside(1, 2)) {
                int asked = rule;
                still("table(" + women + ", " + rule + ")", x -> x.table(women, asked), -1);
            }
        }
        for (int rule : outside(0, 2)) {
            still("table(1, " + rule + ")", x -> x.table(1, rule), -1);
            still("table(2, " + rule + ")", x -> x.table(2, rule), -1);
        }
    }

    private static void heats() {
        for (int thing : new int[] {LEAST, -1, 2, 3, 5, GREATEST}) {
            still("best(" + thing + ", false)", x -> x.best(thing, false), -1);
            still("best(" + thing + ", true)", x -> x.best(thing, true), -1);
        }
    }

    private static void trays() {
        for (int many : outside(0, 36)) {
            still("tray(" + many + ", 0)", x -> x.tray(many, 0), -1);
            still("tray(" + many + ", 100)", x -> x.tray(many, 100), -1);
            still("price(" + many + ")", x -> x.price(many), -1);
        }
        for (int dearer : outside(0, 99)) {
            still("tray(0, " + dearer + ")", x -> x.tray(0, dearer), -1);
            still("tray(36, " + dearer + ")", x -> x.tray(36, dearer), -1);
        }
    }

    private static void ahead() {
        for (int thing : new int[] {LEAST, -1, 2, 3, 5, GREATEST}) {
            still("ahead(" + thing + ", 0)", x -> x.ahead(thing, 0), -1);
            still("ahead(" + thing + ", 13)", x -> x.ahead(thing, 13), -1);
            still("most(" + thing + ")", x -> x.most(thing), -1);
        }
        for (int many : outside(0, 12)) {
            still("ahead(0, " + many + ")", x -> x.ahead(0, many), -1);
            still("ahead(1, " + many + ")", x -> x.ahead(1, many), -1);
        }
    }

    private static TeaJunction soldOut() {
        TeaJunction x = Lived.withTape();
        for (int i = 3; i <= 10; i++) {
            Check.due("sell", x.sell(i - 1, 2 * i + 3), true);
        }
        return x;
    }

    private static TeaJunction seenOut() {
        TeaJunction x = Lived.withTape();
        for (int i = 3; i <= 6; i++) {
            Check.due("see", x.see(40, 1), true);
        }
        return x;
    }

    private static void soldAndSeen() {
        for (int cold : outside(0, 9)) {
            still("sell(" + cold + ", 9)", x -> Twin.of(x.sell(cold, 9)), 0);
        }
        for (int many : outside(0, 99)) {
            still("sell(0, " + many + ")", x -> Twin.of(x.sell(0, many)), 0);
        }
        Twin.still("the eleventh is not SOLD", RefusedTest::soldOut, x -> Twin.of(x.sell(1, 8)), 0);
        for (int cold : outside(-1, 9)) {
            still("laws(" + cold + ")", x -> x.laws(cold), -2);
        }
        for (int seconds : outside(0, 900)) {
            still("see(" + seconds + ", 0)", x -> Twin.of(x.see(seconds, 0)), 0);
        }
        for (int served : outside(0, 6)) {
            still("see(0, " + served + ")", x -> Twin.of(x.see(0, served)), 0);
        }
        Twin.still("the seventh is not SEEN", RefusedTest::seenOut, x -> Twin.of(x.see(900, 6)), 0);
    }

    private static void yearsMarksCounts() {
        for (int what = -1; what <= 3; what++) {
            int asked = what;
            for (int seed : outside(0, 9999)) {
                still("years(" + seed + ", 1, " + what + ")", x -> x.years(seed, 1, asked), -1);
            }
            for (int days : outside(1, 60)) {
                still("years(1, " + days + ", " + what + ")", x -> x.years(1, days, asked), -1);
            }
        }
        for (int what : outside(0, 2)) {
            still("years(1, 1, " + what + ")", x -> x.years(1, 1, what), -1);
        }
        for (int mark : outside(0, 3)) {
            still("mark(" + mark + ", false)", x -> Twin.of(x.mark(mark, false)), 0);
            still("mark(" + mark + ", true)", x -> Twin.of(x.mark(mark, true)), 0);
        }
        still("nothing is on MARK 1", x -> Twin.of(x.mark(1, true)), 0);
        still("nothing is on MARK 3", x -> Twin.of(x.mark(3, true)), 0);
        for (int what : outside(0, 12)) {
            still("count(" + what + ")", x -> x.count(what), -1);
        }
    }

    /** What is only asked changes nothing either; the answers are reckoned where each promise has its tests. */
    private static void questions() {
        Twin.Call[] asked = {x -> x.round(0), x -> x.served(0, 0), x -> x.chance(0), x -> Check.rests(x, 7, -1),
            x -> x.errand(7, 0), x -> x.table(1, 2), x -> x.stand(), x -> x.ring(), x -> x.best(0, false),
            x -> x.best(1, true), x -> x.tray(5, 1), x -> x.price(5), x -> x.ahead(0, 12), x -> x.most(1),
            x -> x.laws(-1), x -> x.was(), x -> x.years(9999, 60, 0), x -> x.judged(1), x -> x.thing(0, 3),
            x -> x.buyer(0, 7), x -> x.count(11)};
        for (int i = 0; i < asked.length; i++) {
            Twin.Call one = asked[i];
            long first = one.on(Lived.withTape());
            still("question " + i, x -> one.on(x) == first && one.on(x) == first ? 1 : 0, 1);
        }
    }
}
