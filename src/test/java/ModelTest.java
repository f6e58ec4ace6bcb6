import java.util.NoSuchElementException;

/** Runs of calls by chance, each answer held against the Model's. */
public final class ModelTest {
    private static final int RUNS = 700;
    private static final int CALLS = 110;

    private final Texts texts;
    private final TeaJunction x = new TeaJunction();
    private final Model m = new Model();
    private final int run;

    private ModelTest(int run) {
        this.run = run;
        this.texts = new Texts(77000 + run);
    }

    public static void main(String[] args) {
        for (int run = 0; run < RUNS; run++) {
            new ModelTest(run).go();
        }
        Check.end("ModelTest");
    }

    private void go() {
        tellJunction(texts.junction());
        for (int i = 0; i < CALLS; i++) {
            if (texts.below(40) == 0) {
                texts();
            } else if (texts.below(3) == 0) {
                byHand();
            } else {
                ask();
            }
        }
        for (int what = -1; what < 14; what++) {
            due("count(" + what + ")", x.count(what), m.count(what));
        }
    }

    private void due(String what, int got, int want) {
        Check.due("run " + run + " " + what, got, want);
    }

    private void due(String what, boolean got, boolean want) {
        Check.due("run " + run + " " + what, got, want);
    }

    private void feed(String text) {
        Check.feed(x, text);
        for (int i = 0; i < text.length() && m.tape.length() < 1000; i++) {
            m.tape.append(text.charAt(i));
        }
        due("signs on the tape", x.count(12), m.tape.length());
    }

    private void tellJunction(String text) {
        feed(text);
        due("junction of " + text, x.junction(), m.junction());
    }

    private void tellDays(String text) {
        feed(text);
        due("days of " + text, x.days(), m.days());
    }

    private void texts() {
        int which = texts.below(10);
        if (which < 5) {
            tellDays(texts.days());
        } else if (which < 7) {
            tellDays(texts.spoilt(texts.days()));
        } else if (which < 9) {
            Texts other = new Texts(texts.below(1000000));
            tellJunction(other.spoilt(other.junction()));
        } else {
            tellJunction(texts.junction());
        }
    }

    private int near(int high) {
        return texts.below(12) == 0 ? texts.from(-2, high + 2) : texts.from(0, high);
    }

    private int one(int what) {
        int n = m.count(what);
        return texts.below(12) == 0 ? texts.from(-1, 7) : n == 0 ? 0 : texts.below(n);
    }

    private void byHand() {
        switch (texts.below(10)) {
            case 0, 1, 2, 3 -> {
                int b = one(2);
                boolean out = texts.below(4) > 0;
                due("out(" + b + ", " + out + ")", x.out(b, out), m.out(b, out));
            }
            case 4 -> set(0, near(m.count(3)));
            case 5 -> set(1, near(200));
            case 6 -> set(texts.from(2, 3), texts.from(0, 3));
            case 7 -> {
                int t = one(1);
                int hot = near(99);
                due("heats(" + t + ", " + hot + ")", x.heats(t, hot), m.heats(t, hot));
            }
            case 8 -> {
                int k = texts.from(-1, 4);
                boolean back = texts.below(2) == 0;
                due("mark(" + k + ", " + back + ")", x.mark(k, back), m.mark(k, back));
            }
            default -> due("undo()", x.undo(), m.undo());
        }
    }

    private void set(int what, int to) {
        due("set(" + what + ", " + to + ")", x.set(what, to), m.set(what, to));
    }

    private void ask() {
        int a;
        int b;
        switch (texts.below(25)) {
            case 0 -> { a = one(1); b = texts.from(-1, 5); due("thing(" + a + ", " + b + ")", x.thing(a, b), m.thing(a, b)); }
            case 1 -> { a = one(2); b = texts.from(-1, 8); due("buyer(" + a + ", " + b + ")", x.buyer(a, b), m.buyer(a, b)); }
            case 2 -> { a = texts.from(-1, 3); due("judged(" + a + ")", x.judged(a), m.judged(a)); }
            case 3, 4, 5, 6 -> { a = one(2); b = texts.from(-1, 5); due("served(" + a + ", " + b + ")", x.served(a, b), m.served(a, b)); }
            case 7 -> { a = texts.from(-1, 5); due("round(" + a + ")", x.round(a), m.round(a)); }
            case 8 -> { a = one(2); due("chance(" + a + ")", x.chance(a), m.chance(a)); }
            case 9, 10 -> rests();
            case 11, 12 -> { a = some(); b = texts.from(-1, 3); due("errand(" + a + ", " + b + ")", x.errand(a, b), m.errand(a, b)); }
            case 13 -> { a = texts.from(0, 3); b = texts.from(-1, 3); due("table(" + a + ", " + b + ")", x.table(a, b), m.table(a, b)); }
            case 14 -> due("stand()", x.stand(), m.stand());
            case 15 -> ring();
            case 16 -> { a = one(1); boolean p = texts.below(3) > 0; due("best(" + a + ", " + p + ")", x.best(a, p), m.best(a, p)); }
            case 17 -> { a = near(36); b = near(99); due("tray(" + a + ", " + b + ")", x.tray(a, b), m.tray(a, b)); }
            case 18 -> { a = near(36); due("price(" + a + ")", x.price(a), m.price(a)); }
            case 19 -> { a = one(1); b = near(12); due("ahead(" + a + ", " + b + ")", x.ahead(a, b), m.ahead(a, b)); }
            case 20 -> { a = one(1); due("most(" + a + ")", x.most(a), m.most(a)); }
            case 21 -> sold();
            case 22 -> { a = texts.from(-2, 10); due("laws(" + a + ")", x.laws(a), m.laws(a)); }
            case 23 -> seen();
            default -> { a = near(9999); b = near(60); int w = texts.from(-1, 3); due("years(" + a + ", " + b + ", " + w + ")", x.years(a, b, w), m.years(a, b, w)); }
        }
    }

    // The Model takes its time over this one.
    private void ring() {
        if (texts.below(3) == 0) {
            due("ring()", x.ring(), m.ring());
        }
    }

    private int some() {
        int n = m.count(2);
        return texts.below(12) == 0 ? texts.from(-1, 64) : texts.from(0, (1 << n) - 1);
    }

    private void rests() {
        int a = some();
        int b = texts.from(-2, 2);
        int want;
        try {
            want = m.rests(a, b);
        } catch (NoSuchElementException e) {
            want = Check.THREW;
        }
        due("rests(" + a + ", " + b + ")", Check.rests(x, a, b), want);
    }

    private void sold() {
        int cold = near(9);
        // Mostly by one law, or no law would ever stay.
        int many = texts.below(6) == 0 ? near(99) : 3 + run % 7 * cold;
        due("sell(" + cold + ", " + many + ")", x.sell(cold, many), m.sell(cold, many));
    }

    private void seen() {
        int seconds = near(900);
        int since = seconds - 60 * (run % 10);
        int served = texts.below(6) == 0 ? near(6) : m.new Game(m.hand).play().servedBy(since);
        due("see(" + seconds + ", " + served + ")", x.see(seconds, served), m.see(seconds, served));
        due("was()", x.was(), m.was());
    }
}
