import java.util.NoSuchElementException;
import java.util.Random;

/** No call throws but rests its NoSuchElementException, whatever is asked, in whatever state. */
public final class WildTest {
    private static final int[] EDGES = {Integer.MIN_VALUE, Integer.MIN_VALUE + 1, -1000000007, -65536, -64, -33, -2, -1,
        0, 1, 2, 3, 4, 5, 6, 7, 9, 10, 12, 13, 15, 16, 31, 32, 36, 37, 60, 61, 63, 64, 65, 99, 100, 200, 201, 512, 540,
        600, 900, 901, 9999, 10000, 65536, 1 << 30, Integer.MAX_VALUE - 1, Integer.MAX_VALUE};

    private final Texts texts;
    private final Random chance;
    private final TeaJunction x = new TeaJunction();

    private WildTest(int run) {
        texts = new Texts(run);
        chance = texts.chance;
    }

    public static void main(String[] args) {
        for (int run = 0; run < 400; run++) {
            WildTest w = new WildTest(run);
            for (int i = 0; i < 200; i++) {
                w.call(i);
            }
        }
        Check.end("WildTest");
    }

    private int any() {
        return chance.nextInt(3) == 0 ? EDGES[chance.nextInt(EDGES.length)] : chance.nextInt(8);
    }

    private void call(int i) {
        String last = "call " + i;
        boolean fine;
        try {
            one(chance.nextInt(36));
            fine = true;
        } catch (RuntimeException e) {
            e.printStackTrace(System.out);
            fine = false;
        }
        Check.due(last, fine, true);
    }

    private void one(int which) {
        switch (which) {
            case 0 -> x.feed(chance.nextLong(), chance.nextLong(), chance.nextLong());
            case 1, 2 -> Check.junction(x, texts.junction());
            case 3 -> Check.junction(x, texts.spoilt(texts.junction()));
            case 4 -> Check.days(x, texts.days());
            case 5 -> Check.days(x, texts.spoilt(texts.days()));
            case 6 -> x.thing(any(), any());
            case 7 -> x.buyer(any(), any());
            case 8, 9, 10 -> x.out(any(), chance.nextInt(4) > 0);
            case 11 -> x.set(any(), any());
            case 12 -> x.heats(any(), any());
            case 13 -> x.undo();
            case 14 -> x.judged(any());
            case 15 -> x.served(any(), any());
            case 16 -> x.round(any());
            case 17 -> x.chance(any());
            case 18 -> rests(any(), any());
            case 19 -> x.errand(any(), any());
            case 20 -> x.table(any(), any());
            case 21 -> x.stand();
            case 22 -> x.ring();
            case 23 -> x.best(any(), chance.nextBoolean());
            case 24 -> x.tray(any(), any());
            case 25 -> x.price(any());
            case 26 -> x.ahead(any(), any());
            case 27 -> x.most(any());
            case 28 -> x.sell(any(), any());
            case 29 -> x.laws(any());
            case 30 -> x.see(any(), any());
            case 31 -> x.was();
            case 32 -> x.years(any(), any(), any());
            case 33, 34 -> x.mark(any(), chance.nextBoolean());
            default -> x.count(any());
        }
    }

    private void rests(int buyers, int what) {
        try {
            x.rests(buyers, what);
        } catch (NoSuchElementException e) {
            Check.due("rests may throw", true, true);
        }
    }
}
