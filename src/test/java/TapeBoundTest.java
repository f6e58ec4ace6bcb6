/** The bounds of the TAPE and of TOKENS: which signs, how many, how long a WORD or a NUMBER, where a FAULT is. */
public final class TapeBoundTest {
    private static final String ONE_BUYER = "coach a yards 0; thing t pie secs 1 price 1 hot 0 cools 0;"
            + "buyer p plain coach a odds 0 dear 0 wants t;";

    private TapeBoundTest() {
    }

    public static void main(String[] args) {
        whichSigns();
        inWhichOrder();
        aThousand();
        isTaken();
        words();
        letters();
        numbers();
        signs();
        blanks();
        places();
        Check.end("TapeBoundTest");
    }

    private static void due(String what, long got, long want) {
        Check.due(what, got, want);
    }

    private static void text(String text, int kind, int place) {
        due("junction of " + text, Check.junction(new TeaJunction(), text), kind + 16 * place);
    }

    /** Each byte, at each of the 24 places: 10 and 32 .. 126 are taken. */
    private static void whichSigns() {
        for (int sign = 0; sign < 256; sign++) {
            int taken = sign == 10 || sign >= 32 && sign <= 126 ? 1 : 0;
            for (int at = 0; at < 24; at++) {
                long[] part = new long[3];
                part[at / 8] = (long) sign << 56 - at % 8 * 8;
                TeaJunction x = new TeaJunction();
                due("feed of " + sign + " at " + at, x.feed(part[0], part[1], part[2]), taken);
                due("count(12)", x.count(12), taken);
            }
        }
    }

    private static void inWhichOrder() {
        TeaJunction x = new TeaJunction();
        // "women 1;", " lips 5;", "sip 7;" and two blanks
        due("24", x.feed(0x776f6d656e20313bL, 0x206c69707320353bL, 0x73697020373b2020L), 24);
        due("in this order", x.junction(), 0);
        due("women", x.count(6), 1);
        x = new TeaJunction();
        due("23", x.feed(0x776f6d656e20313bL, 0x206c69707320353bL, 0x73697020373b2000L), 23);
        due("a thing wrong at place 23", Check.junction(x, "women 1;"), 3 + 16 * 23);
        x = new TeaJunction();
        // w, o and m by a, e and n by b, the blank, 1, ; by c, what is left out between them
        due("6 of 24", x.feed(0xff77006f0b6d1f80L, 0x0965811f7f9f6eL, 0x00L), 5);
        due("then 3", x.feed(0x0020003100003b00L, 0, 0), 8);
        due("a WORD of what is left", x.junction(), 0);
        due("women", x.count(6), 1);
        // The greatest bits of a long are a byte like another.
        due("126 is the highest byte", new TeaJunction().feed(0x7e00000000000000L, 0, 0), 1);
        due("127 is not", new TeaJunction().feed(0x7f00000000000000L, 0, 0), 0);
        due("128 is not", new TeaJunction().feed(Long.MIN_VALUE, Long.MIN_VALUE, Long.MIN_VALUE), 0);
        due("193 (65 and 128) is not", new TeaJunction().feed(0xc1c1c1c1c1c1c1c1L, 0, 0), 0);
        due("nothing", new TeaJunction().feed(0, 0, 0), 0);
    }

    private static TeaJunction blanks(int many) {
        TeaJunction x = new TeaJunction();
        Check.feed(x, " ".repeat(many));
        due("blanks", x.count(12), many);
        return x;
    }

    private static void aThousand() {
        TeaJunction x = blanks(999);
        due("the thousandth", x.feed(0x41, 0, 0), 1000);
        due("the one beyond", x.feed(0x41, 0x41, 0x41), 1000);
        due("nothing more", x.feed(0, 0, 0), 1000);
        due("it stands at 999", x.junction(), 1 + 16 * 999);
        x = blanks(1000);
        due("the one beyond", x.feed(0x41, 0, 0), 1000);
        due("was left out", x.junction(), 0);
        x = blanks(998);
        due("two of three", x.feed(0x4142430000000000L, 0, 0), 1000);
        due("the first two", x.junction(), 1 + 16 * 998);
        // 16 of 24 signs
        x = blanks(984);
        Check.feed(x, "women 1;lips  0;~~~~~~~~");
        due("1000", x.count(12), 1000);
        due("16 were taken", x.junction(), 0);
        due("women", x.count(6), 1);
        // 15 of 24: the end is at the text's length
        x = blanks(985);
        Check.feed(x, "women 1;lips  0;~~~~~~~~");
        due("the ; was left out", x.junction(), 1 + 16 * 1000);
        // What is left out for what it is takes no room.
        x = blanks(999);
        due("the last of 24", x.feed(0, -1, 0x3bL), 1000);
        due("a ; can't stand there", x.days(), 1 + 16 * 999);
        x = blanks(1000);
        due("DAYS of 1000 blanks", x.days(), 0);
        // A JUNCTION of 1000 signs, and one of which the last is left out.
        String order = "order 1" + "+1".repeat(496) + ";";
        due("1000 signs", order.length(), 1000);
        text(order, 0, 0);
        text("\n" + order, 1, 1000);
    }

    private static void isTaken() {
        TeaJunction x = new TeaJunction();
        due("junction", Check.junction(x, "women 1;"), 0);
        due("taken", x.count(12), 0);
        due("an empty one again", x.junction(), 0);
        due("is the JUNCTION", x.count(6), 2);
        due("fault", Check.junction(x, "women 3; "), 4 + 16 * 6);
        due("taken", x.count(12), 0);
        due("days", Check.days(x, "run;"), 0);
        due("taken", x.count(12), 0);
        due("fault", Check.days(x, "runs; "), 1);
        due("taken", x.count(12), 0);
        due("empty", x.days(), 0);
        due("no lines", x.count(8), 0);
        due("feed again", x.feed(0x41, 0, 0), 1);
        due("at place 0", x.days(), 1);
        x = blanks(1000);
        due("full, then taken", x.junction(), 0);
        due("room again", x.feed(0x2020202020202020L, 0x2020202020202020L, 0x2020202020202020L), 24);
    }

    private static void words() {
        for (int length = 1; length <= 8; length++) {
            text("coach " + "z".repeat(length) + " yards 1;", 0, 0);
        }
        text("coach zzzzzzzzz yards 1;", 1, 6);
        text("coach " + "z".repeat(100) + " yards 1;", 1, 6);
        text("coach " + "z".repeat(900) + " yards 1;", 1, 6);
        text("womenwome 1;", 1, 0);
        text("coachcoach a yards 1;", 1, 0);
        // 13 letters fill a long by fives: 26 letters that end as coach does are none all the same.
        text("zzzzzzzzzzzzzzzzzzzzzcoach a yards 1;", 1, 0);
        text("buyerbuyerbuyerbuyercoach a yards 1;", 1, 0);
        // Alike or not, by 8 letters.
        text("coach aaaaaaaa yards 1;coach aaaaaaab yards 1;coach aaaaaaa yards 1;coach baaaaaaa yards 1;", 0, 0);
        text("coach aaaaaaaa yards 1;coach aaaaaaaa yards 1;", 3, 29);
        text("coach zzzzzzzz yards 1;coach zzzzzzzz yards 1;", 3, 29);
        text("coach a yards 1;coach aa yards 1;coach aaa yards 1;", 0, 0);
        // A WORD ends where a NUMBER begins, and another way round.
        text("women1;lips0;", 0, 0);
        text("stop 60bell 60;", 0, 0);
        text("stop60bell60;", 0, 0);
        text("coach a1 yards 1;", 1, 7);
    }

    private static void letters() {
        text("coach a yards 1;", 0, 0);
        text("coach z yards 1;", 0, 0);
        for (char none : new char[] {'`', '{', 'A', 'Z', '@', '[', '_', '~', '!', '"', '\'', '.', ','}) {
            text("coach " + none + " yards 1;", 1, 6);
            text("coach a" + none + " yards 1;", 1, 7);
            text("" + none, 1, 0);
        }
        text("Coach a yards 1;", 1, 0);
        text("cOach a yards 1;", 1, 0);
    }

    private static void numbers() {
        text("pace 1;", 0, 0);
        text("pace 01;", 0, 0);
        text("pace 001;", 0, 0);
        text("pace 0001;", 0, 0);
        text("pace 00001;", 1, 5);
        text("pace 0030;", 0, 0);
        text("pace 0031;", 4, 5);
        text("pace 9999;", 4, 5);
        text("pace 10000;", 1, 5);
        text("pace " + "1".repeat(900) + ";", 1, 5);
        text("order 0;", 0, 0);
        text("order 0000;", 0, 0);
        text("order 00000;", 1, 6);
        text("order 9999;", 0, 0);
        text("order 10000;", 1, 6);
        text("stop 0060bell 60;", 0, 0);
        text("stop 00060bell 60;", 1, 5);
        // 47 and 58 stand next to the digits
        text("pace /;", 1, 5);
        text("pace :;", 1, 5);
        text("pace 1/;", 1, 6);
        text("pace 1:;", 1, 6);
    }

    /** Each sign between two NUMBERS of an order. */
    private static void signs() {
        for (int c = 32; c <= 126; c++) {
            String text = "order 1" + (char) c + "1;";
            if (c >= '0' && c <= '9' || "<=+-*".indexOf(c) >= 0) {
                text(text, 0, 0);
            } else if (c == ' ' || c == ';') {
                text(text, 1, 8);
            } else {
                text(text, 1, 7);
            }
        }
        text("order 1\n1;", 1, 8);
        text("order(1);", 0, 0);
        text("order (1 ;", 1, 9);
        text("order 1) ;", 1, 7);
        text("women 1,", 1, 7);
        text("women 1", 1, 7);
    }

    private static void blanks() {
        text("", 0, 0);
        text(" ", 0, 0);
        text("\n", 0, 0);
        text("\n \n  \n", 0, 0);
        text("\n women \n\n 1 \n ; \n", 0, 0);
        text("order(far)<(2)and not(1)or(exact*many);", 0, 0);
        text(ONE_BUYER.replace(" ", "\n\n"), 0, 0);
        text(ONE_BUYER.replace(" ", "  ").replace(";", " ; "), 0, 0);
        text("late 10\n0 0\n0;", 0, 0);
        text("late 1 000;", 1, 10);
        text("coach a yardsa 1;", 1, 8);
        text("co ach a yards 1;", 1, 0);
        text("pace 1 0;", 1, 7);
    }

    private static void places() {
        // The place of a token is that of its first sign, the end's is the text's length.
        text("women", 1, 5);
        text("women  ", 1, 7);
        text("women\n", 1, 6);
        text(" women 1", 1, 8);
        text("  women 1 ", 1, 10);
        text("   ;", 1, 3);
        text(" ".repeat(999) + ";", 1, 999);
        text(" ".repeat(996) + "late", 1, 1000);
        text(" ".repeat(993) + "women 3", 4, 999);
        text(" ".repeat(994) + "women ", 1, 1000);
        TeaJunction x = new TeaJunction();
        due("days", Check.days(x, "run"), 1 + 16 * 3);
        due("days", Check.days(x, "run \n "), 1 + 16 * 6);
        due("days", Check.days(x, " ".repeat(997) + "run"), 1 + 16 * 1000);
        due("days", Check.days(x, " ".repeat(996) + "run;"), 0);
        // Of two that are wrong the first from the left.
        text("women 3; lips 100;", 4, 6);
        text("women 1; lips 100; women 1", 4, 14);
        text("~ women 3;", 1, 0);
    }
}
