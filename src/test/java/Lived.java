/** An object with something of all that an object can hold, made anew for each question. */
final class Lived {
    /** ann comes at 0, bob at 50, cis at 0; all go at the bell, or at 250 and 300. */
    static final String JUNCTION = "stop 300 bell 240; coach a yards 0; coach b yards 100;"
            + "thing cha tea secs 20 price 3 hot 90 cools 10; thing pot soup secs 30 price 5 hot 95 cools 5;"
            + "thing bun pie secs 5 price 2 hot 0 cools 0;"
            + "buyer ann early coach b odds 5 dear 2 wants bun cha; buyer bob plain coach b odds 8 dear 6 wants cha;"
            + "buyer cis pound coach a odds 2 dear 0 wants pot; women 1; lips 70; sip 20;";
    static final String ON_TAPE = "out ann; run; run;";

    private Lived() {
    }

    static TeaJunction made() {
        TeaJunction x = Check.at(JUNCTION);
        Check.due("days", Check.days(x, "out bob; run; in bob; run;"), 0);
        Check.due("mark 0", x.mark(0, false), true);
        Check.due("out ann", x.out(0, true), true);
        Check.due("out cis", x.out(2, true), true);
        Check.due("bell", x.set(0, 200), true);
        Check.due("urn", x.set(1, 20), true);
        Check.due("women", x.set(2, 2), true);
        Check.due("heats", x.heats(0, 80), true);
        Check.due("sell", x.sell(1, 7), true);
        Check.due("sell", x.sell(2, 9), true);
        Check.due("see", x.see(100, 2), true);
        Check.due("see", x.see(40, 1), true);
        Check.due("mark 2", x.mark(2, false), true);
        Check.due("urn", x.set(1, 30), true);
        return x;
    }

    static TeaJunction withTape() {
        TeaJunction x = made();
        Check.feed(x, ON_TAPE);
        Check.due("signs", x.count(12), ON_TAPE.length());
        return x;
    }
}
