import java.util.function.Supplier;

/** Two alike objects: what one of them was asked leaves it like the other one, in all that can be seen. */
final class Twin {
    interface Call {
        long on(TeaJunction x);
    }

    private Twin() {
    }

    static long of(boolean answer) {
        return answer ? 1 : 0;
    }

    /** The call answers as is due, and nothing is changed by it. */
    static void still(String what, Supplier<TeaJunction> made, Call call, long due) {
        TeaJunction asked = made.get();
        Check.due(what, call.on(asked), due);
        same(what, asked, made.get());
    }

    /** Some 320 calls on each, the last of them changing it: undone, gone back to MARKS, the TAPE read. */
    static void same(String what, TeaJunction x, TeaJunction y) {
        compare(what, x, y, Twin::seen, 150);
        for (int i = 0; i <= 16; i++) {
            boolean more = y.undo();
            Check.due(what + ", then undo", x.undo(), more);
            compare(what + ", then undo " + i, x, y, Twin::byHand, 7);
            if (!more) {
                break;
            }
        }
        for (int i = 0; i < 4; i++) {
            int mark = i;
            compare(what + ", then back to " + i, x, y, (z, n) -> backTo(z, mark, n), 20);
        }
        Check.due(what + ", then days", x.days(), y.days());
        Check.due(what + ", then lines", x.count(8), y.count(8));
        Check.due(what + ", then judged", x.judged(2), y.judged(2));
    }

    private interface Sight {
        long of(TeaJunction x, int n);
    }

    private static void compare(String what, TeaJunction x, TeaJunction y, Sight sight, int many) {
        for (int n = 0; n < many; n++) {
            Check.due(what + ", then sight " + n, sight.of(x, n), sight.of(y, n));
        }
    }

    private static long seen(TeaJunction x, int n) {
        if (n < 13) {
            return x.count(n);
        } else if (n < 38) {
            return x.thing((n - 13) / 5, (n - 13) % 5);
        } else if (n < 86) {
            return x.buyer((n - 38) / 8, (n - 38) % 8);
        } else if (n < 116) {
            return x.served((n - 86) / 5, (n - 86) % 5);
        } else if (n < 121) {
            return x.round(n - 116);
        } else if (n < 127) {
            return x.chance(n - 121);
        } else if (n < 138) {
            return x.laws(n - 128);
        } else if (n < 141) {
            return x.judged(n - 138);
        } else if (n < 144) {
            return x.years(7, 20, n - 141);
        } else if (n < 147) {
            return x.table(1, n - 144);
        }
        return n == 147 ? x.was() : n == 148 ? Check.rests(x, 1, -1) : x.ahead(0, 2);
    }

    private static long byHand(TeaJunction x, int n) {
        return n < 4 ? x.count(n + 4) : x.thing(n - 4, 3);
    }

    private static long backTo(TeaJunction x, int mark, int n) {
        if (n == 0) {
            return of(x.mark(mark, true));
        }
        return n < 13 ? x.count(n) : n < 16 ? x.thing(n - 13, 3) : n < 18 ? x.judged(n - 15)
                : n == 18 ? x.laws(3) : x.was();
    }
}
