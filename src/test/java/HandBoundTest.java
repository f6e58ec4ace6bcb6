/** The bounds of what is done by hand, UNDO, JUDGED, MARKS and count. */
public final class HandBoundTest {
    private static final String COACH = "coach a yards 0;";
    private static final String PIE = "thing t pie secs 1 price 1 hot 0 cools 0;";
    private static final String BUYER = "buyer p plain coach a odds 0 dear 0 wants t;";
    private static final String ONE = COACH + PIE + BUYER;

    private HandBoundTest() {
    }

    public static void main(String[] args) {
        bells();
        urns();
        women();
        hot();
        outAndIn();
        undoSixteen();
        undoEach();
        undoOnlyChanges();
        undoIsCleared();
        judgedLines();
        judgedRuns();
        judgedFromTheBeginning();
        marks();
        marksHold();
        counts();
        Check.end("HandBoundTest");
    }

    private static void due(String what, long got, long want) {
        Check.due(what, got, want);
    }

    private static void yes(String what, boolean got) {
        Check.due(what, got, true);
    }

    private static void no(String what, boolean got) {
        Check.due(what, got, false);
    }

    private static void bells() {
        TeaJunction x = Check.at("stop 60 bell 30;");
        no("0", x.set(0, 0));
        yes("1", x.set(0, 1));
        due("the bell", x.count(4), 1);
        no("1 again", x.set(0, 1));
        yes("the stop", x.set(0, 60));
        due("the bell", x.count(4), 60);
        no("beyond the stop", x.set(0, 61));
        no("900", x.set(0, 900));
        due("the bell stays", x.count(4), 60);
        x = Check.at("stop 900 bell 900;");
        no("901", x.set(0, 901));
        no("900 already", x.set(0, 900));
        yes("899", x.set(0, 899));
        yes("900", x.set(0, 900));
        x = new TeaJunction();
        no("540 already", x.set(0, 540));
        no("601", x.set(0, 601));
        yes("600", x.set(0, 600));
    }

    private static void urns() {
        TeaJunction x = Check.at(ONE);
        no("0 already", x.set(1, 0));
        no("-1", x.set(1, -1));
        yes("1", x.set(1, 1));
        due("WAY of a yard", x.buyer(0, 6), 0);
        yes("2", x.set(1, 2));
        due("WAY of two", x.buyer(0, 6), 1);
        yes("200", x.set(1, 200));
        no("200 again", x.set(1, 200));
        no("201", x.set(1, 201));
        due("yards", x.count(5), 200);
        due("WAY of 200", x.buyer(0, 6), 100);
        yes("0", x.set(1, 0));
        due("yards", x.count(5), 0);
    }

    private static void women() {
        TeaJunction x = new TeaJunction();
        no("2 already", x.set(2, 2));
        no("3", x.set(2, 3));
        no("0", x.set(2, 0));
        yes("1", x.set(2, 1));
        no("1 again", x.set(2, 1));
        due("women", x.count(6), 1);
        yes("2", x.set(2, 2));
        due("women", x.count(6), 2);
    }

    private static void hot() {
        StringBuilder s = new StringBuilder();
        for (int i = 0; i < 5; i++) {
            s.append("thing ").append((char) ('a' + i)).append(" tea secs 1 price 1 hot ").append(i * 10)
                    .append(" cools 0;");
        }
        TeaJunction x = Check.at(s.toString());
        no("-1", x.heats(4, -1));
        no("100", x.heats(4, 100));
        no("40 already", x.heats(4, 40));
        yes("0", x.heats(4, 0));
        yes("99", x.heats(4, 99));
        no("99 again", x.heats(4, 99));
        no("the sixth", x.heats(5, 50));
        no("0 already", x.heats(0, 0));
        yes("1", x.heats(0, 1));
        int[] hot = {1, 10, 20, 30, 99};
        for (int i = 0; i < 5; i++) {
            due("hot", x.thing(i, 3), hot[i]);
        }
        no("where none is told", new TeaJunction().heats(0, 50));
    }

    private static void outAndIn() {
        StringBuilder s = new StringBuilder(COACH + PIE);
        for (int i = 0; i < 6; i++) {
            s.append(BUYER.replace("buyer p", "buyer p" + (char) ('a' + i)));
        }
        TeaJunction x = Check.at(s.toString());
        int bits = 0;
        for (int i = 5; i >= 0; i--) {
            due("in", x.buyer(i, 5), 0);
            no("in already", x.out(i, false));
            yes("out", x.out(i, true));
            no("out already", x.out(i, true));
            bits |= 1 << i;
            due("as bits", x.count(7), bits);
            due("out", x.buyer(i, 5), 1);
        }
        no("the seventh", x.out(6, true));
        yes("the first in", x.out(0, false));
        yes("the last in", x.out(5, false));
        due("as bits", x.count(7), 30);
        no("where none is told", new TeaJunction().out(0, true));
        no("nor in", new TeaJunction().out(0, false));
    }

    /** The last 16 are kept: of 15 and of 16 all, of 17 the first is gone. */
    private static void undoSixteen() {
        for (int many : new int[] {0, 1, 15, 16, 17, 18, 32, 33, 40}) {
            TeaJunction x = new TeaJunction();
            for (int i = 1; i <= many; i++) {
                yes("urn", x.set(1, i));
                due("what can be undone", x.count(11), Math.min(i, 16));
            }
            int kept = Math.min(many, 16);
            for (int i = 1; i <= kept; i++) {
                yes("undo", x.undo());
                due("one by one", x.count(5), many - i);
                due("what can be undone", x.count(11), kept - i);
            }
            no("no more", x.undo());
            due("as it was 16 ago", x.count(5), many - kept);
        }
        // What is undone makes room: 16, one undone, two more: the second of the 16 is the last that can be.
        TeaJunction x = new TeaJunction();
        for (int i = 1; i <= 16; i++) {
            yes("urn", x.set(1, i));
        }
        yes("undo", x.undo());
        yes("urn 50", x.set(1, 50));
        due("16 again", x.count(11), 16);
        yes("urn 51", x.set(1, 51));
        due("16 still", x.count(11), 16);
        for (int i = 0; i < 16; i++) {
            yes("undo", x.undo());
        }
        due("not the first", x.count(5), 1);
        no("no more", x.undo());
    }

    private static void undoEach() {
        TeaJunction x = Check.at(ONE);
        yes("out", x.out(0, true));
        yes("in", x.out(0, false));
        yes("bell", x.set(0, 1));
        yes("urn", x.set(1, 200));
        yes("women", x.set(2, 1));
        yes("hot", x.heats(0, 99));
        yes("hot", x.heats(0, 98));
        yes("undo", x.undo());
        due("hot 99", x.thing(0, 3), 99);
        yes("undo", x.undo());
        due("hot 0", x.thing(0, 3), 0);
        yes("undo", x.undo());
        due("women", x.count(6), 2);
        yes("undo", x.undo());
        due("urn", x.count(5), 0);
        yes("undo", x.undo());
        due("bell", x.count(4), 540);
        yes("undo in", x.undo());
        due("out", x.count(7), 1);
        yes("undo out", x.undo());
        due("in", x.count(7), 0);
        no("no more", x.undo());
        // Undoing is not done by hand: it can't be undone.
        due("nothing", x.count(11), 0);
    }

    /** Only what changes something can be undone; else the answer is false, and it takes no room. */
    private static void undoOnlyChanges() {
        TeaJunction x = Check.at(ONE);
        yes("urn 7", x.set(1, 7));
        for (int i = 0; i < 20; i++) {
            no("urn 7 again", x.set(1, 7));
            no("women 3", x.set(2, 3));
            no("in", x.out(0, false));
            no("hot 0", x.heats(0, 0));
        }
        due("one", x.count(11), 1);
        yes("sell", x.sell(1, 1));
        yes("see", x.see(1, 1));
        yes("mark", x.mark(1, false));
        due("days", Check.days(x, "run;"), 0);
        due("a FAULT", Check.junction(x, "run;"), 1);
        due("still one", x.count(11), 1);
        yes("undo", x.undo());
        due("urn", x.count(5), 0);
        due("sold stays", x.count(9), 1);
        due("seen stays", x.count(10), 1);
        due("days stay", x.count(8), 1);
        no("no more", x.undo());
    }

    private static void undoIsCleared() {
        TeaJunction x = Check.at(ONE);
        yes("urn 7", x.set(1, 7));
        yes("mark 0", x.mark(0, false));
        yes("urn 8", x.set(1, 8));
        due("two", x.count(11), 2);
        yes("back", x.mark(0, true));
        due("none", x.count(11), 0);
        no("nothing can be undone", x.undo());
        due("urn", x.count(5), 7);
        yes("urn 9", x.set(1, 9));
        no("no such mark back", x.mark(1, true));
        due("one", x.count(11), 1);
        yes("undo", x.undo());
        due("urn", x.count(5), 7);
        yes("urn 9", x.set(1, 9));
        due("junction", Check.junction(x, ONE), 0);
        no("nothing can be undone", x.undo());
        due("urn", x.count(5), 0);
    }

    private static int idle(String days) {
        TeaJunction x = Check.at("stop 60 bell 30;" + ONE + "women 1;");
        due("days " + days, Check.days(x, days), 0);
        return x.judged(0);
    }

    /** The first line that changes nothing, by each kind of line. */
    private static void judgedLines() {
        due("none", idle(""), -1);
        due("in already", idle("in p;"), 0);
        due("out", idle("out p;"), -1);
        due("out already", idle("out p;out p;"), 1);
        due("in", idle("out p;in p;out p;"), -1);
        due("bell as it is", idle("bell 30;"), 0);
        due("bell 1", idle("bell 1;"), -1);
        due("bell at the stop", idle("bell 60;"), -1);
        due("bell beyond the stop", idle("bell 61;"), 0);
        due("bell 900", idle("bell 60;bell 900;"), 1);
        due("it stays by that", idle("bell 60;bell 59;bell 61;bell 59;"), 2);
        due("it stays by that, again", idle("bell 60;bell 60;"), 1);
        due("urn as it is", idle("urn 0;"), 0);
        due("urn", idle("urn 200;urn 0;urn 1;"), -1);
        due("women as they are", idle("women 1;"), 0);
        due("women", idle("women 2;women 1;"), -1);
        due("hot as it is", idle("hot t 0;"), 0);
        due("hot", idle("hot t 99;hot t 0;"), -1);
        due("a run by nobody", idle("run;"), 0);
        due("a run", idle("out p;bell 60;run;"), -1);
        due("the first of two", idle("urn 1;urn 1;run;"), 1);
        due("the fortieth", idle("urn 1;urn 0;".repeat(19) + "urn 1;urn 1;"), 39);
        due("none of forty", idle("urn 1;urn 0;".repeat(20)), -1);
    }

    /** p is served at 1 and has drunk at 31: by a bell at 31, not at 30. */
    private static void judgedRuns() {
        TeaJunction x = Check.at("stop 60 bell 30;" + ONE);
        due("days", Check.days(x, "out p;run;bell 31;run;bell 30;run;in p;run;"), 0);
        due("nothing is DRUNK by 30", x.judged(0), 1);
        due("paid by three runs", x.judged(1), 3);
        due("drunk by one", x.judged(2), 1);
        due("what -1", x.judged(-1), -2);
        due("what 3", x.judged(3), -2);
        due("no lines", Check.days(x, ""), 0);
        due("none", x.judged(0), -1);
        due("no pence", x.judged(1), 0);
        due("no things", x.judged(2), 0);
        // All that can come of DAYS: 35 runs of six who pay and drink 3 each.
        StringBuilder s = new StringBuilder(COACH + "sip 1;women 2;change 0;");
        for (int i = 0; i < 3; i++) {
            s.append("thing t").append((char) ('a' + i)).append(" pie secs 1 price 99 hot 0 cools 0;");
        }
        for (int i = 0; i < 6; i++) {
            s.append("buyer p").append((char) ('a' + i)).append(" plain coach a odds 0 dear 0 wants ta tb tc;");
        }
        x = Check.at(s.toString());
        due("days", Check.days(x, "out pa;out pb;out pc;out pd;out pe;out pf;" + "run;".repeat(34)), 0);
        due("none", x.judged(0), -1);
        due("pence", x.judged(1), 34 * 18 * 99);
        due("things", x.judged(2), 34 * 18);
    }

    /** The DAYS begin with the JUNCTION as told, not with what is done by hand, and leave that as it is. */
    private static void judgedFromTheBeginning() {
        TeaJunction x = Check.at("stop 60 bell 30;" + ONE + "women 1;");
        due("days", Check.days(x, "out p;bell 60;urn 1;women 2;hot t 1;run;"), 0);
        yes("out", x.out(0, true));
        yes("bell", x.set(0, 60));
        yes("urn", x.set(1, 1));
        yes("women", x.set(2, 2));
        yes("hot", x.heats(0, 1));
        due("each changes something", x.judged(0), -1);
        due("and again", x.judged(0), -1);
        due("drunk", x.judged(2), 1);
        yes("in", x.out(0, false));
        due("drunk", x.judged(2), 1);
        due("nobody is out", x.count(7), 0);
        due("bell", x.count(4), 60);
        due("undo", x.count(11), 6);
    }

    private static void marks() {
        TeaJunction x = new TeaJunction();
        for (int mark = 0; mark < 4; mark++) {
            no("nothing is on it", x.mark(mark, true));
        }
        for (int mark = 0; mark < 4; mark++) {
            yes("urn", x.set(1, mark + 1));
            yes("laid", x.mark(mark, false));
            due("undo stays", x.count(11), mark + 1);
        }
        for (int mark = 3; mark >= 0; mark--) {
            yes("back", x.mark(mark, true));
            due("urn", x.count(5), mark + 1);
            yes("back again", x.mark(mark, true));
            due("urn", x.count(5), mark + 1);
        }
        no("-1", x.mark(-1, false));
        no("4", x.mark(4, false));
        no("-1 back", x.mark(-1, true));
        no("4 back", x.mark(4, true));
        yes("laid over 2", x.mark(2, false));
        yes("urn", x.set(1, 100));
        yes("back", x.mark(2, true));
        due("the later one", x.count(5), 1);
        // A FAULT leaves the MARKS, a JUNCTION takes them.
        due("fault", Check.junction(x, "women 3;"), 4 + 16 * 6);
        yes("3 is there", x.mark(3, true));
        due("junction", Check.junction(x, "women 2;"), 0);
        for (int mark = 0; mark < 4; mark++) {
            no("no MARK is there", x.mark(mark, true));
        }
    }

    /** Each of what a MARK holds is told otherwise after it, one by one. */
    private static void marksHold() {
        TeaJunction x = Lived.made();
        yes("mark 1", x.mark(1, false));
        Twin.Call[] others = {y -> Twin.of(y.out(1, true)), y -> Twin.of(y.set(0, 1)), y -> Twin.of(y.set(1, 200)),
            y -> Twin.of(y.set(2, 1)), y -> Twin.of(y.heats(2, 99)), y -> 1 - Check.days(y, "in bob;"),
            y -> Twin.of(y.sell(9, 99)), y -> Twin.of(y.see(900, 6)), y -> 1 - Check.days(y, "")};
        for (int i = 0; i < others.length; i++) {
            due("otherwise " + i, others[i].on(x), 1);
            yes("back", x.mark(1, true));
            int[] counts = {2, 3, 3, 300, 200, 30, 2, 5, 4, 2, 2, 0, 0};
            for (int what = 0; what < counts.length; what++) {
                due("back from " + i + ", count(" + what + ")", x.count(what), counts[what]);
            }
            due("hot", x.thing(2, 3), 0);
            due("drunk on the DAYS", x.judged(2), 1);
            due("laws", x.laws(0), 5);
        }
        // What is on the TAPE is not on a MARK.
        Check.feed(x, "run;");
        yes("back", x.mark(1, true));
        due("signs", x.count(12), 4);
    }

    private static void counts() {
        TeaJunction x = Lived.withTape();
        int[] due = {2, 3, 3, 300, 200, 30, 2, 5, 4, 2, 2, 7, Lived.ON_TAPE.length()};
        for (int what = 0; what < due.length; what++) {
            due("count(" + what + ")", x.count(what), due[what]);
        }
        due("count(-1)", x.count(-1), -1);
        due("count(13)", x.count(13), -1);
        x = new TeaJunction();
        int[] first = {0, 0, 0, 600, 540, 0, 2, 0, 0, 0, 0, 0, 0};
        for (int what = 0; what < first.length; what++) {
            due("new count(" + what + ")", x.count(what), first[what]);
        }
        due("count(13)", x.count(13), -1);
    }
}
