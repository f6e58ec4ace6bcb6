import java.util.NoSuchElementException;

/** Eleven minutes at the junction, as the document tells them. */
public final class TeaJunction {
    public static final int NONE = -1;

    // Answers of served, judged, laws where NONE already means something.
    private static final int OTHERS = -2;

    private static final int MOST_SIGNS = 1000;
    private static final int MOST_COACHES = 6;
    private static final int MOST_THINGS = 5;
    private static final int MOST_BUYERS = 6;
    private static final int MOST_WANTED = 3;
    private static final int MOST_LINES = 40;
    private static final int MOST_WOMEN = 2;
    private static final int MOST_NESTED = 5;
    private static final int MOST_UNDONE = 16;
    private static final int MOST_SOLD = 10;
    private static final int MOST_SEEN = 6;
    private static final int MOST_AHEAD = 12;
    private static final int MOST_ON_TRAY = 36;
    private static final int MOST_DAYS = 60;
    private static final int MOST_RESTING = 4;
    private static final int MOST_LATE = 9;
    private static final int MARKS = 4;
    private static final int LATES = 4;
    private static final int LONGEST_STOP = 900;
    private static final int FARTHEST = 200;
    private static final int HOTTEST = 99;
    private static final int DEAREST = 99;
    private static final int TOO_COLD = 20;

    // Later than any second that a ROUND can have.
    private static final int NEVER = 1000000;

    // The SORTS tea, soup, pie and the KINDS plain, pound, early count from 0; the others need no name.
    private static final int PIE = 2;
    private static final int POUND = 1;
    private static final int EARLY = 2;

    // What is done by hand; the first three are also what set is asked for.
    private static final int BELL = 0;
    private static final int URN = 1;
    private static final int WOMEN = 2;
    private static final int OUT = 3;
    private static final int HOT = 4;
    private static final int RUN = 5;

    // A line of the DAYS, and a change that can be undone, is a row of three: what, of which, to what.
    private static final int ROW = 3;

    private static final int BY_ORDER = 0;
    private static final int BY_COMING = 1;
    private static final int BY_EXACT = 2;

    private static final int END_TOKEN = 0;
    private static final int WORD_TOKEN = 1;
    private static final int NUMBER_TOKEN = 2;
    private static final int SIGN_TOKEN = 3;
    private static final int NO_TOKEN = 4;

    private static final int CANT_STAND = 1;
    private static final int NOT_TOLD = 2;
    private static final int TOLD_ALREADY = 3;
    private static final int NOT_AS_TOLD = 4;
    private static final int TOO_MANY = 5;

    private static final int KEPT = 0;
    private static final int FACT = -1;

    private static final String SIGNS = "()<=+-*;";

    private static final Word[] WORDS = Word.values();

    private final Tape tape;
    private final PlanReader planReader;
    private final DaysReader daysReader;
    private Plan plan;
    private Plan draft = new Plan();
    private final State now;
    private final State trial = new State();
    private final State[] marks = new State[MARKS];
    private final Round round;
    private final int[] undone = new int[MOST_UNDONE * ROW];
    private int undoable;
    private final int[] gains = new int[(1 << MOST_BUYERS) * MOST_BUYERS];

    public TeaJunction() {
        Tape text = new Tape();
        Plan first = new Plan();
        State hand = new State();
        hand.startWith(first);
        tape = text;
        planReader = new PlanReader(text);
        daysReader = new DaysReader(text);
        plan = first;
        now = hand;
        round = new Round(first, hand);
        for (int i = 0; i < marks.length; i++) {
            marks[i] = new State();
        }
    }

    public int feed(long a, long b, long c) {
        tape.append(a);
        tape.append(b);
        tape.append(c);
        return tape.length;
    }

    public int junction() {
        int fault = planReader.read(draft);
        if (fault == 0) {
            Plan old = plan;
            plan = draft;
            draft = old;
            now.startWith(plan);
            now.forget();
            undoable = 0;
            for (int i = 0; i < marks.length; i++) {
                marks[i].laid = false;
            }
        }
        return fault;
    }

    public int days() {
        int fault = daysReader.read(plan);
        if (fault == 0) {
            now.takeLines(daysReader.lines, daysReader.lineCount);
        }
        return fault;
    }

    public int thing(int thing, int what) {
        if (!isThing(thing)) {
            return NONE;
        }
        Thing of = plan.thing[thing];
        switch (what) {
            case 0: return of.sort;
            case 1: return of.secs;
            case 2: return of.price;
            case 3: return now.hot[thing];
            case 4: return of.cools;
            default: return NONE;
        }
    }

    public int buyer(int buyer, int what) {
        if (!isBuyer(buyer)) {
            return NONE;
        }
        Buyer of = plan.buyer[buyer];
        switch (what) {
            case 0: return of.kind;
            case 1: return of.coach;
            case 2: return of.odds;
            case 3: return of.dear;
            case 4: return of.bits;
            case 5: return (now.out >> buyer) & 1;
            case 6: return plan.wayOf(buyer, now.urn);
            case 7: return plan.goesAt(plan.wayOf(buyer, now.urn), now.bell);
            default: return NONE;
        }
    }

    public boolean out(int buyer, boolean out) {
        return changeByHand(OUT, buyer, out ? 1 : 0);
    }

    public boolean set(int what, int to) {
        return what >= BELL && what <= WOMEN && changeByHand(what, 0, to);
    }

    public boolean heats(int thing, int hot) {
        return changeByHand(HOT, thing, hot);
    }

    public boolean undo() {
        if (undoable <= 0) {
            return false;
        }
        undoable--;
        int at = undoable * ROW;
        now.change(plan, undone[at], undone[at + 1], undone[at + 2]);
        return true;
    }

    public int judged(int what) {
        if (what < 0 || what > 2) {
            return OTHERS;
        }
        trial.startWith(plan);
        int idle = NONE;
        int pence = 0;
        int drunk = 0;
        for (int line = 0; line < now.lineCount; line++) {
            int at = line * ROW;
            boolean changes;
            if (now.lines[at] == RUN) {
                playTrial();
                pence += round.paid();
                drunk += round.drunkInAll();
                changes = round.drunkInAll() > 0;
            } else {
                changes = trial.change(plan, now.lines[at], now.lines[at + 1], now.lines[at + 2]);
            }
            if (!changes && idle == NONE) {
                idle = line;
            }
        }
        return what == 0 ? idle : what == 1 ? pence : drunk;
    }

    public int served(int buyer, int what) {
        if (!isBuyer(buyer) || (now.out >> buyer & 1) == 0) {
            return OTHERS;
        }
        playNow();
        switch (what) {
            case 0: return round.begins[buyer];
            case 1: return round.servedAt[buyer];
            case 2: return round.drunk[buyer];
            case 3: return round.left[buyer];
            case 4: return (round.behind >> buyer) & 1;
            default: return OTHERS;
        }
    }

    public int round(int what) {
        playNow();
        switch (what) {
            case 0: return round.paid();
            case 1: return round.drunkInAll();
            case 2: return round.leftInAll();
            case 3: return Integer.bitCount(round.behind);
            case 4: return round.servedBy(NEVER);
            default: return NONE;
        }
    }

    public int chance(int buyer) {
        if (!isBuyer(buyer)) {
            return NONE;
        }
        trial.copyHand(now);
        int self = 1 << buyer;
        long good = 0;
        long all = 0;
        for (int others = 0; others < 1 << plan.buyers; others++) {
            long weight = (others & self) == 0 ? weightOf(others, buyer) : 0;
            all += weight;
            if (weight > 0) {
                trial.out = others | self;
                playTrial();
                if (round.drunk[buyer] == plan.buyer[buyer].bits && (round.behind & self) == 0) {
                    good += weight;
                }
            }
        }
        return all > 0 ? (int) (good * 1000000L / all) : 0;
    }

    public int rests(int buyers, int what) throws NoSuchElementException {
        if (!isSome(buyers) || Integer.bitCount(buyers) > MOST_RESTING || what < NONE) {
            throw new NoSuchElementException();
        }
        fillGains(buyers);
        int found = 0;
        for (int choice = 0; choice <= buyers; choice++) {
            if ((choice & ~buyers) == 0 && isAtRest(buyers, choice)) {
                if (found == what) {
                    return choice;
                }
                found++;
            }
        }
        if (what != NONE) {
            throw new NoSuchElementException();
        }
        return found;
    }

    public int errand(int buyers, int what) {
        if (!isSome(buyers) || what < 0 || what > 2) {
            return NONE;
        }
        int can = 0;
        int who = NONE;
        int when = NONE;
        for (int i = 0; i < plan.buyers; i++) {
            int second = (buyers >> i & 1) != 0 ? errandSecond(buyers, i) : NONE;
            if (second != NONE) {
                can |= 1 << i;
                if (who == NONE || second < when) {
                    who = i;
                    when = second;
                }
            }
        }
        return what == 0 ? can : what == 1 ? who : when;
    }

    public int table(int women, int rule) {
        if (women < 1 || women > MOST_WOMEN || rule < BY_ORDER || rule > BY_EXACT) {
            return NONE;
        }
        trial.copyHand(now);
        trial.women = women;
        round.layOut(plan, trial);
        round.rule = rule;
        round.play();
        return round.drunkInAll();
    }

    public int stand() {
        trial.copyHand(now);
        int best = 0;
        int most = NONE;
        for (int yards = 0; yards <= FARTHEST; yards += 10) {
            trial.urn = yards;
            playTrial();
            if (round.drunkInAll() > most) {
                most = round.drunkInAll();
                best = yards;
            }
        }
        return best;
    }

    public int ring() {
        trial.copyHand(now);
        int best = NONE;
        int most = NONE;
        for (int second = 1; second <= plan.stop; second++) {
            trial.bell = second;
            playTrial();
            if (round.behind == 0 && round.drunkInAll() > most) {
                most = round.drunkInAll();
                best = second;
            }
        }
        return best;
    }

    public int best(int thing, boolean pence) {
        if (!isPoured(thing)) {
            return NONE;
        }
        trial.copyHand(now);
        int best = 0;
        int most = NONE;
        for (int hot = 0; hot <= HOTTEST; hot++) {
            trial.hot[thing] = hot;
            playTrial();
            int worth = pence ? round.paid() + round.pouredBack() : round.drunkInAll();
            if (worth > most) {
                most = worth;
                best = hot;
            }
        }
        return best;
    }

    public int tray(int many, int dearer) {
        if (many < 0 || many > MOST_ON_TRAY || dearer < 0 || dearer > DEAREST) {
            return NONE;
        }
        return trayPence(many, dearer);
    }

    public int price(int many) {
        if (many < 0 || many > MOST_ON_TRAY) {
            return NONE;
        }
        int best = 0;
        int most = NONE;
        for (int dearer = 0; dearer <= DEAREST; dearer++) {
            int pence = trayPence(many, dearer);
            if (pence > most) {
                most = pence;
                best = dearer;
            }
        }
        return best;
    }

    public int ahead(int thing, int many) {
        if (!isPoured(thing) || many < 0 || many > MOST_AHEAD) {
            return NONE;
        }
        return meanAhead(thing, many);
    }

    public int most(int thing) {
        if (!isPoured(thing)) {
            return NONE;
        }
        int best = 0;
        int greatest = meanAhead(thing, 0);
        for (int many = 1; many <= MOST_AHEAD; many++) {
            int mean = meanAhead(thing, many);
            if (mean > greatest) {
                greatest = mean;
                best = many;
            }
        }
        return best;
    }

    public boolean sell(int cold, int many) {
        if (cold < 0 || cold > 9 || many < 0 || many > 99 || now.soldCount >= MOST_SOLD) {
            return false;
        }
        now.sold[now.soldCount * 2] = cold;
        now.sold[now.soldCount * 2 + 1] = many;
        now.soldCount++;
        return true;
    }

    public int laws(int cold) {
        if (cold < NONE || cold > 9) {
            return OTHERS;
        }
        int found = 0;
        int said = OTHERS;
        boolean same = true;
        for (int a = 0; a <= 9; a++) {
            for (int b = 0; b <= 9; b++) {
                if (now.isLaw(a, b)) {
                    int says = a + b * cold;
                    same = same && (found == 0 || says == said);
                    said = says;
                    found++;
                }
            }
        }
        if (cold == NONE) {
            return found;
        }
        return same ? said : OTHERS;
    }

    public boolean see(int seconds, int served) {
        if (seconds < 0 || seconds > LONGEST_STOP || served < 0 || served > MOST_BUYERS
                || now.seenCount >= MOST_SEEN) {
            return false;
        }
        now.seen[now.seenCount * 2] = seconds;
        now.seen[now.seenCount * 2 + 1] = served;
        now.seenCount++;
        return true;
    }

    public int was() {
        playNow();
        int bits = 0;
        for (int late = 0; late <= MOST_LATE; late++) {
            boolean goes = true;
            for (int i = 0; i < now.seenCount; i++) {
                int since = now.seen[i * 2] - 60 * late;
                goes = goes && round.servedBy(since) == now.seen[i * 2 + 1];
            }
            if (goes) {
                bits |= 1 << late;
            }
        }
        return bits;
    }

    public int years(int seed, int days, int what) {
        if (seed < 0 || seed > 9999 || days < 1 || days > MOST_DAYS || what < 0 || what > 2) {
            return NONE;
        }
        trial.copyHand(now);
        long g = seed;
        int sum = 0;
        for (int day = 0; day < days; day++) {
            trial.out = 0;
            for (int i = 0; i < plan.buyers; i++) {
                g = (g * 1103515245L + 12345L) % 2147483648L;
                if (g / 65536L % 10L < plan.buyer[i].odds) {
                    trial.out |= 1 << i;
                }
            }
            playTrial();
            sum += what == 0 ? round.paid()
                    : what == 1 ? round.drunkInAll() : Integer.bitCount(round.behind);
        }
        return sum;
    }

    public boolean mark(int mark, boolean back) {
        if (mark < 0 || mark >= marks.length) {
            return false;
        }
        State on = marks[mark];
        if (!back) {
            on.copyAll(now);
            on.laid = true;
            return true;
        }
        if (!on.laid) {
            return false;
        }
        now.copyAll(on);
        undoable = 0;
        return true;
    }

    public int count(int what) {
        switch (what) {
            case 0: return plan.coaches;
            case 1: return plan.things;
            case 2: return plan.buyers;
            case 3: return plan.stop;
            case 4: return now.bell;
            case 5: return now.urn;
            case 6: return now.women;
            case 7: return now.out;
            case 8: return now.lineCount;
            case 9: return now.soldCount;
            case 10: return now.seenCount;
            case 11: return undoable;
            case 12: return tape.length;
            default: return NONE;
        }
    }

    private boolean isThing(int thing) {
        return thing >= 0 && thing < plan.things;
    }

    private boolean isPoured(int thing) {
        return isThing(thing) && plan.thing[thing].sort != PIE;
    }

    private boolean isBuyer(int buyer) {
        return buyer >= 0 && buyer < plan.buyers;
    }

    private boolean isSome(int buyers) {
        return buyers > 0 && buyers < 1 << plan.buyers;
    }

    private boolean changeByHand(int what, int which, int to) {
        int old = now.valueOf(plan, what, which);
        if (!now.change(plan, what, which, to)) {
            return false;
        }
        if (undoable >= MOST_UNDONE) {
            System.arraycopy(undone, ROW, undone, 0, undone.length - ROW);
            undoable = MOST_UNDONE - 1;
        }
        int at = undoable * ROW;
        undone[at] = what;
        undone[at + 1] = which;
        undone[at + 2] = old;
        undoable++;
        return true;
    }

    private void playNow() {
        round.layOut(plan, now);
        round.play();
    }

    private void playTrial() {
        round.layOut(plan, trial);
        round.play();
    }

    private long weightOf(int out, int but) {
        long weight = 1;
        for (int i = 0; i < plan.buyers; i++) {
            if (i != but) {
                int odds = plan.buyer[i].odds;
                weight *= (out >> i & 1) != 0 ? odds : 10 - odds;
            }
        }
        return weight;
    }

    private void fillGains(int buyers) {
        trial.copyHand(now);
        for (int choice = 0; choice <= buyers; choice++) {
            if ((choice & ~buyers) == 0) {
                trial.out = now.out & ~buyers | choice;
                playTrial();
                for (int i = 0; i < plan.buyers; i++) {
                    gains[choice * MOST_BUYERS + i] = 10 * Integer.bitCount(round.drunk[i])
                            - 3 * (choice >> i & 1) - 50 * (round.behind >> i & 1);
                }
            }
        }
    }

    private boolean isAtRest(int buyers, int choice) {
        for (int i = 0; i < plan.buyers; i++) {
            int other = choice ^ 1 << i;
            if ((buyers >> i & 1) != 0
                    && gains[other * MOST_BUYERS + i] > gains[choice * MOST_BUYERS + i]) {
                return false;
            }
        }
        return true;
    }

    private int errandSecond(int buyers, int who) {
        trial.copyHand(now);
        trial.out = now.out & ~buyers | 1 << who;
        round.layOut(plan, trial);
        round.group = buyers;
        round.runner = who;
        round.play();
        int second = round.servedAt[who];
        return second <= round.goes[who] ? second : NONE;
    }

    private int trayPence(int many, int dearer) {
        int stock = many;
        int pence = 0;
        for (int i = 0; i < plan.buyers; i++) {
            Buyer of = plan.buyer[i];
            if (of.dear >= dearer && of.many <= stock) {
                stock -= of.many;
                pence += plan.priceFor(i) + of.many * dearer;
            }
        }
        return pence;
    }

    private int meanAhead(int thing, int many) {
        int sum = 0;
        for (int late = 0; late < LATES; late++) {
            if (plan.late[late] > 0) {
                round.layOut(plan, now);
                round.poured = thing;
                round.stock = many;
                round.minutesLate = late;
                round.play();
                sum += plan.late[late] * (round.drunkInAll() - round.stock);
            }
        }
        // The odds are of ten, the mean is told in thousandths.
        return sum * 100;
    }

    /** The words that a text is told in; once is the bit of a line that is told once only. */
    private enum Word {
        STOP("stop", 1), BELL("bell", KEPT), COACH("coach", KEPT), YARDS("yards", KEPT),
        THING("thing", KEPT), SECS("secs", KEPT), PRICE("price", KEPT), HOT("hot", KEPT),
        COOLS("cools", KEPT), BUYER("buyer", KEPT), ODDS("odds", KEPT), DEAR("dear", KEPT),
        WANTS("wants", KEPT), WOMEN("women", 2), CHANGE("change", 4), LIPS("lips", 8),
        SIP("sip", 16), PACE("pace", 32), LATE("late", 64), ORDER("order", 128),
        OUT("out", KEPT), IN("in", KEPT), URN("urn", KEPT), RUN("run", KEPT),
        TEA("tea", KEPT), SOUP("soup", KEPT), PIE("pie", KEPT),
        PLAIN("plain", KEPT), POUND("pound", KEPT), EARLY("early", KEPT),
        NOT("not", KEPT), AND("and", KEPT), OR("or", KEPT),
        FAR("far", FACT), WAITS("waits", FACT), EXACT("exact", FACT), MANY("many", FACT);

        final long key;
        final int once;

        Word(String text, int once) {
            long letters = 0;
            for (int i = 0; i < text.length(); i++) {
                letters = letters * 32 + (text.charAt(i) - 'a' + 1);
            }
            this.key = letters;
            this.once = once;
        }
    }

    /** The TAPE and the token that a reader stands at; behind a fault no token is anything. */
    private static final class Tape {
        final char[] signs = new char[MOST_SIGNS];
        int length;
        int place;
        int next;
        int kind;
        long key;
        int number;
        char sign;
        Word word;
        int fault;

        void append(long bytes) {
            for (int shift = 56; shift >= 0; shift -= 8) {
                int one = (int) (bytes >>> shift & 255L);
                if ((one == 10 || one >= 32 && one <= 126) && length < signs.length) {
                    signs[length] = (char) one;
                    length++;
                }
            }
        }

        void rewind() {
            fault = 0;
            next = 0;
            step();
        }

        int finish() {
            length = 0;
            return fault;
        }

        boolean goesOn() {
            return fault == 0 && kind != END_TOKEN;
        }

        void fail(int why) {
            if (fault == 0) {
                fault = why + 16 * place;
            }
            kind = NO_TOKEN;
            word = null;
        }

        void step() {
            if (fault != 0) {
                return;
            }
            while (next < length && (signs[next] == ' ' || signs[next] == 10)) {
                next++;
            }
            place = next;
            word = null;
            key = 0;
            if (next >= length) {
                kind = END_TOKEN;
            } else if (signs[next] >= 'a' && signs[next] <= 'z') {
                stepWord();
            } else if (signs[next] >= '0' && signs[next] <= '9') {
                stepNumber();
            } else {
                sign = signs[next];
                next++;
                kind = SIGNS.indexOf(sign) >= 0 ? SIGN_TOKEN : NO_TOKEN;
            }
        }

        private void stepWord() {
            while (next < length && signs[next] >= 'a' && signs[next] <= 'z') {
                key = key * 32 + (signs[next] - 'a' + 1);
                next++;
            }
            if (next - place > 8) {
                kind = NO_TOKEN;
                return;
            }
            kind = WORD_TOKEN;
            for (int i = 0; i < WORDS.length; i++) {
                if (WORDS[i].key == key) {
                    word = WORDS[i];
                }
            }
        }

        private void stepNumber() {
            number = 0;
            while (next < length && signs[next] >= '0' && signs[next] <= '9') {
                number = number * 10 + (signs[next] - '0');
                next++;
            }
            kind = next - place > 4 ? NO_TOKEN : NUMBER_TOKEN;
        }

        boolean isSign(char wanted) {
            return kind == SIGN_TOKEN && sign == wanted;
        }

        boolean isName() {
            return kind == WORD_TOKEN && (word == null || word.once == FACT);
        }

        void take(Word wanted) {
            if (word == wanted) {
                step();
            } else {
                fail(CANT_STAND);
            }
        }

        void takeSign(char wanted) {
            if (isSign(wanted)) {
                step();
            } else {
                fail(CANT_STAND);
            }
        }

        int takeNumber(int low, int high) {
            int taken = number;
            if (kind != NUMBER_TOKEN) {
                fail(CANT_STAND);
            } else if (taken < low || taken > high) {
                fail(NOT_AS_TOLD);
            } else {
                step();
                return taken;
            }
            return 0;
        }

        int takeOneOf(Word first, Word second, Word third) {
            int which = word == first ? 0 : word == second ? 1 : 2;
            take(which == 0 ? first : which == 1 ? second : third);
            return which;
        }

        /** The number of a NAME that stands at the token, found is its number or NONE. */
        int takeKnown(int found) {
            if (!isName()) {
                fail(CANT_STAND);
            } else if (found < 0) {
                fail(NOT_TOLD);
            } else {
                step();
                return found;
            }
            return 0;
        }
    }

    /** E, as signs to be worked off from the left on a pile: a NUMBER, or one of these below 0. */
    private static final class Order {
        static final int FAR = -1;
        static final int WAITS = -2;
        static final int EXACT = -3;
        static final int MANY = -4;
        static final int NOT = -5;
        static final int AND = -6;
        static final int OR = -7;
        static final int LESS = -8;
        static final int SAME = -9;
        static final int PLUS = -10;
        static final int MINUS = -11;
        static final int TIMES = -12;

        final int[] code = new int[MOST_SIGNS];
        int length;
        // Four values wait at most for their right side at each of five depths.
        final int[] pile = new int[32];

        void add(int sign) {
            if (length < code.length) {
                code[length] = sign;
                length++;
            }
        }

        int value(int far, int waits, int exact, int many) {
            int top = 0;
            for (int i = 0; i < length; i++) {
                int sign = code[i];
                // The facts and all NUMBERS are at MANY or above, what joins two is below NOT.
                if (sign >= MANY) {
                    if (top < pile.length) {
                        pile[top] = sign >= 0 ? sign : sign == FAR ? far
                                : sign == WAITS ? waits : sign == EXACT ? exact : many;
                        top++;
                    }
                } else if (sign == NOT) {
                    if (top > 0) {
                        pile[top - 1] = pile[top - 1] == 0 ? 1 : 0;
                    }
                } else if (top > 1) {
                    top--;
                    int a = pile[top - 1];
                    int b = pile[top];
                    switch (sign) {
                        case AND: pile[top - 1] = a != 0 && b != 0 ? 1 : 0; break;
                        case OR: pile[top - 1] = a != 0 || b != 0 ? 1 : 0; break;
                        case LESS: pile[top - 1] = a < b ? 1 : 0; break;
                        case SAME: pile[top - 1] = a == b ? 1 : 0; break;
                        case PLUS: pile[top - 1] = a + b; break;
                        case MINUS: pile[top - 1] = a - b; break;
                        default: pile[top - 1] = a * b; break;
                    }
                }
            }
            return top > 0 ? pile[0] : 0;
        }
    }

    private static final class OrderReader {
        final Tape tape;

        OrderReader(Tape tape) {
            this.tape = tape;
        }

        private void readWhole(Order order, int depth) {
            readTest(order, depth);
            for (int n = 0; n < MOST_SIGNS && (tape.word == Word.AND || tape.word == Word.OR); n++) {
                int sign = tape.word == Word.AND ? Order.AND : Order.OR;
                tape.step();
                readTest(order, depth);
                order.add(sign);
            }
        }

        private void readTest(Order order, int depth) {
            readSum(order, depth);
            if (tape.isSign('<') || tape.isSign('=')) {
                int sign = tape.isSign('<') ? Order.LESS : Order.SAME;
                tape.step();
                readSum(order, depth);
                order.add(sign);
            }
        }

        private void readSum(Order order, int depth) {
            readProduct(order, depth);
            for (int n = 0; n < MOST_SIGNS && (tape.isSign('+') || tape.isSign('-')); n++) {
                int sign = tape.isSign('+') ? Order.PLUS : Order.MINUS;
                tape.step();
                readProduct(order, depth);
                order.add(sign);
            }
        }

        private void readProduct(Order order, int depth) {
            readPart(order, depth);
            for (int n = 0; n < MOST_SIGNS && tape.isSign('*'); n++) {
                tape.step();
                readPart(order, depth);
                order.add(Order.TIMES);
            }
        }

        private void readPart(Order order, int depth) {
            boolean isFact = tape.word != null && tape.word.once == FACT;
            boolean isNot = tape.word == Word.NOT;
            boolean isOpen = tape.isSign('(');
            if (tape.kind != NUMBER_TOKEN && !isFact && !isNot && !isOpen) {
                tape.fail(CANT_STAND);
            } else if (depth >= MOST_NESTED) {
                tape.fail(TOO_MANY);
            } else if (isNot) {
                tape.step();
                readPart(order, depth + 1);
                order.add(Order.NOT);
            } else if (isOpen) {
                tape.step();
                readWhole(order, depth + 1);
                tape.takeSign(')');
            } else {
                order.add(isFact ? factOf(tape.word) : tape.number);
                tape.step();
            }
        }

        private static int factOf(Word word) {
            return word == Word.FAR ? Order.FAR : word == Word.WAITS ? Order.WAITS
                    : word == Word.EXACT ? Order.EXACT : Order.MANY;
        }
    }

    private static final class Thing {
        long name;
        int sort;
        int secs;
        int price;
        int hot;
        int cools;
    }

    private static final class Buyer {
        long name;
        int kind;
        int coach;
        int odds;
        int dear;
        final int[] wants = new int[MOST_WANTED];
        int many;
        int bits;
    }

    /** A JUNCTION as it is told. */
    private static final class Plan {
        int stop;
        int bell;
        int women;
        int change;
        int lips;
        int sip;
        int pace;
        final int[] late = new int[LATES];
        final Order order = new Order();
        int coaches;
        final long[] coachName = new long[MOST_COACHES];
        final int[] yards = new int[MOST_COACHES];
        int things;
        final Thing[] thing = new Thing[MOST_THINGS];
        int buyers;
        final Buyer[] buyer = new Buyer[MOST_BUYERS];

        Plan() {
            clear();
            for (int i = 0; i < thing.length; i++) {
                thing[i] = new Thing();
            }
            for (int i = 0; i < buyer.length; i++) {
                buyer[i] = new Buyer();
            }
        }

        void clear() {
            stop = 600;
            bell = 540;
            women = 2;
            change = 10;
            lips = 60;
            sip = 30;
            pace = 5;
            late[0] = 10;
            late[1] = 0;
            late[2] = 0;
            late[3] = 0;
            order.length = 0;
            coaches = 0;
            things = 0;
            buyers = 0;
        }

        int coachOf(long name) {
            for (int i = 0; i < coaches; i++) {
                if (coachName[i] == name) {
                    return i;
                }
            }
            return NONE;
        }

        int thingOf(long name) {
            for (int i = 0; i < things; i++) {
                if (thing[i].name == name) {
                    return i;
                }
            }
            return NONE;
        }

        int buyerOf(long name) {
            for (int i = 0; i < buyers; i++) {
                if (buyer[i].name == name) {
                    return i;
                }
            }
            return NONE;
        }

        int farOf(int who, int urn) {
            int at = yards[buyer[who].coach];
            return at < urn ? urn - at : at - urn;
        }

        int wayOf(int who, int urn) {
            return farOf(who, urn) * pace / 10;
        }

        int goesAt(int way, int bell) {
            return Math.max(0, Math.min(bell, stop - way));
        }

        int secsFor(int who) {
            int secs = 0;
            for (int i = 0; i < buyer[who].many; i++) {
                secs += thing[buyer[who].wants[i]].secs;
            }
            return secs;
        }

        int priceFor(int who) {
            int pence = 0;
            for (int i = 0; i < buyer[who].many; i++) {
                pence += thing[buyer[who].wants[i]].price;
            }
            return pence;
        }
    }

    private static final class PlanReader {
        final Tape tape;
        final OrderReader orderReader;
        int told;

        PlanReader(Tape tape) {
            this.tape = tape;
            this.orderReader = new OrderReader(tape);
        }

        int read(Plan plan) {
            plan.clear();
            told = 0;
            tape.rewind();
            for (int n = 0; n < MOST_SIGNS && tape.goesOn(); n++) {
                readLine(plan);
            }
            return tape.finish();
        }

        private void readLine(Plan plan) {
            Word line = tape.word;
            if (line == Word.COACH) {
                readCoach(plan);
            } else if (line == Word.THING) {
                readThing(plan);
            } else if (line == Word.BUYER) {
                readBuyer(plan);
            } else if (line == null || line.once <= 0) {
                tape.fail(CANT_STAND);
            } else if ((told & line.once) != 0) {
                tape.fail(TOLD_ALREADY);
            } else {
                told |= line.once;
                tape.step();
                if (line == Word.LATE) {
                    readLate(plan);
                } else if (line == Word.ORDER) {
                    orderReader.readWhole(plan.order, 0);
                } else {
                    readOnce(plan, line);
                }
            }
            tape.takeSign(';');
        }

        private void readOnce(Plan plan, Word line) {
            if (line == Word.STOP) {
                plan.stop = tape.takeNumber(60, LONGEST_STOP);
                tape.take(Word.BELL);
                plan.bell = tape.takeNumber(1, plan.stop);
            } else if (line == Word.WOMEN) {
                plan.women = tape.takeNumber(1, MOST_WOMEN);
            } else if (line == Word.CHANGE) {
                plan.change = tape.takeNumber(0, 60);
            } else if (line == Word.LIPS) {
                plan.lips = tape.takeNumber(0, 99);
            } else if (line == Word.SIP) {
                plan.sip = tape.takeNumber(1, 120);
            } else {
                plan.pace = tape.takeNumber(1, 30);
            }
        }

        private void readLate(Plan plan) {
            int rest = 10;
            for (int i = 0; i < LATES - 1; i++) {
                plan.late[i] = tape.takeNumber(0, 10);
                rest -= plan.late[i];
            }
            // Only what is missing to ten is as told; a rest below 0 no NUMBER can be.
            plan.late[LATES - 1] = tape.takeNumber(rest, rest);
        }

        private void readCoach(Plan plan) {
            if (plan.coaches >= MOST_COACHES) {
                tape.fail(TOO_MANY);
                return;
            }
            tape.step();
            plan.coachName[plan.coaches] = takeNewName(plan);
            tape.take(Word.YARDS);
            plan.yards[plan.coaches] = tape.takeNumber(0, FARTHEST);
            plan.coaches++;
        }

        private void readThing(Plan plan) {
            if (plan.things >= MOST_THINGS) {
                tape.fail(TOO_MANY);
                return;
            }
            Thing one = plan.thing[plan.things];
            tape.step();
            one.name = takeNewName(plan);
            one.sort = tape.takeOneOf(Word.TEA, Word.SOUP, Word.PIE);
            tape.take(Word.SECS);
            one.secs = tape.takeNumber(1, 60);
            tape.take(Word.PRICE);
            one.price = tape.takeNumber(1, 99);
            tape.take(Word.HOT);
            one.hot = tape.takeNumber(0, HOTTEST);
            tape.take(Word.COOLS);
            one.cools = tape.takeNumber(0, 20);
            plan.things++;
        }

        private void readBuyer(Plan plan) {
            if (plan.buyers >= MOST_BUYERS) {
                tape.fail(TOO_MANY);
                return;
            }
            Buyer one = plan.buyer[plan.buyers];
            tape.step();
            one.name = takeNewName(plan);
            one.kind = tape.takeOneOf(Word.PLAIN, Word.POUND, Word.EARLY);
            tape.take(Word.COACH);
            one.coach = tape.takeKnown(plan.coachOf(tape.key));
            tape.take(Word.ODDS);
            one.odds = tape.takeNumber(0, 10);
            tape.take(Word.DEAR);
            one.dear = tape.takeNumber(0, DEAREST);
            tape.take(Word.WANTS);
            readWants(plan, one);
            plan.buyers++;
        }

        private void readWants(Plan plan, Buyer one) {
            one.many = 0;
            one.bits = 0;
            for (int n = 0; n <= MOST_WANTED && (n == 0 || tape.kind == WORD_TOKEN); n++) {
                int found = plan.thingOf(tape.key);
                if (!tape.isName()) {
                    tape.fail(CANT_STAND);
                } else if (found < 0) {
                    tape.fail(NOT_TOLD);
                } else if ((one.bits >> found & 1) != 0) {
                    tape.fail(TOLD_ALREADY);
                } else if (one.many >= MOST_WANTED) {
                    tape.fail(TOO_MANY);
                } else {
                    one.wants[one.many] = found;
                    one.many++;
                    one.bits |= 1 << found;
                    tape.step();
                }
            }
        }

        private long takeNewName(Plan plan) {
            long name = tape.key;
            if (!tape.isName()) {
                tape.fail(CANT_STAND);
            } else if (plan.coachOf(name) >= 0 || plan.thingOf(name) >= 0 || plan.buyerOf(name) >= 0) {
                tape.fail(TOLD_ALREADY);
            } else {
                tape.step();
            }
            return name;
        }
    }

    private static final class DaysReader {
        final Tape tape;
        final int[] lines = new int[MOST_LINES * ROW];
        int lineCount;

        DaysReader(Tape tape) {
            this.tape = tape;
        }

        int read(Plan plan) {
            lineCount = 0;
            tape.rewind();
            for (int n = 0; n < MOST_SIGNS && tape.goesOn(); n++) {
                readLine(plan);
            }
            return tape.finish();
        }

        private void readLine(Plan plan) {
            int what = whatOf(tape.word);
            boolean isOut = tape.word == Word.OUT;
            if (what == NONE) {
                tape.fail(CANT_STAND);
            } else if (lineCount >= MOST_LINES) {
                tape.fail(TOO_MANY);
            } else {
                tape.step();
                int which = 0;
                int to = isOut ? 1 : 0;
                if (what == OUT) {
                    which = tape.takeKnown(plan.buyerOf(tape.key));
                } else if (what == HOT) {
                    which = tape.takeKnown(plan.thingOf(tape.key));
                    to = tape.takeNumber(0, HOTTEST);
                } else if (what == BELL) {
                    to = tape.takeNumber(1, LONGEST_STOP);
                } else if (what == URN) {
                    to = tape.takeNumber(0, FARTHEST);
                } else if (what == WOMEN) {
                    to = tape.takeNumber(1, MOST_WOMEN);
                }
                keepLine(what, which, to);
            }
            tape.takeSign(';');
        }

        private void keepLine(int what, int which, int to) {
            int at = lineCount * ROW;
            lines[at] = what;
            lines[at + 1] = which;
            lines[at + 2] = to;
            lineCount++;
        }

        private static int whatOf(Word word) {
            if (word == Word.OUT || word == Word.IN) {
                return OUT;
            }
            return word == Word.BELL ? BELL : word == Word.URN ? URN : word == Word.WOMEN ? WOMEN
                    : word == Word.HOT ? HOT : word == Word.RUN ? RUN : NONE;
        }
    }

    /** What is done by hand, and all else that a MARK holds. */
    private static final class State {
        int out;
        int bell;
        int urn;
        int women;
        final int[] hot = new int[MOST_THINGS];
        final int[] lines = new int[MOST_LINES * ROW];
        int lineCount;
        final int[] sold = new int[MOST_SOLD * 2];
        int soldCount;
        final int[] seen = new int[MOST_SEEN * 2];
        int seenCount;
        boolean laid;

        void startWith(Plan plan) {
            out = 0;
            bell = plan.bell;
            urn = 0;
            women = plan.women;
            for (int i = 0; i < plan.things; i++) {
                hot[i] = plan.thing[i].hot;
            }
        }

        void forget() {
            lineCount = 0;
            soldCount = 0;
            seenCount = 0;
        }

        void takeLines(int[] from, int many) {
            System.arraycopy(from, 0, lines, 0, many * ROW);
            lineCount = many;
        }

        void copyHand(State from) {
            out = from.out;
            bell = from.bell;
            urn = from.urn;
            women = from.women;
            System.arraycopy(from.hot, 0, hot, 0, hot.length);
        }

        void copyAll(State from) {
            copyHand(from);
            takeLines(from.lines, from.lineCount);
            System.arraycopy(from.sold, 0, sold, 0, sold.length);
            soldCount = from.soldCount;
            System.arraycopy(from.seen, 0, seen, 0, seen.length);
            seenCount = from.seenCount;
        }

        int valueOf(Plan plan, int what, int which) {
            switch (what) {
                case BELL: return bell;
                case URN: return urn;
                case WOMEN: return women;
                case OUT: return which >= 0 && which < plan.buyers ? out >> which & 1 : NONE;
                case HOT: return which >= 0 && which < plan.things ? hot[which] : NONE;
                default: return NONE;
            }
        }

        /** Whether it changes something. */
        boolean change(Plan plan, int what, int which, int to) {
            int old = valueOf(plan, what, which);
            if (old == NONE || old == to || !isAllowed(plan, what, to)) {
                return false;
            }
            switch (what) {
                case BELL: bell = to; break;
                case URN: urn = to; break;
                case WOMEN: women = to; break;
                case OUT: out ^= 1 << which; break;
                default: hot[which] = to; break;
            }
            return true;
        }

        private static boolean isAllowed(Plan plan, int what, int to) {
            switch (what) {
                case BELL: return to >= 1 && to <= plan.stop;
                case URN: return to >= 0 && to <= FARTHEST;
                case WOMEN: return to >= 1 && to <= MOST_WOMEN;
                case OUT: return to == 0 || to == 1;
                default: return to >= 0 && to <= HOTTEST;
            }
        }

        boolean isLaw(int a, int b) {
            for (int i = 0; i < soldCount; i++) {
                if (a + b * sold[i * 2] != sold[i * 2 + 1]) {
                    return false;
                }
            }
            return true;
        }
    }

    /** A ROUND: laid out, altered where a question wants it otherwise, then played. */
    private static final class Round {
        Plan plan;
        State at;
        int rule;
        int group;
        int runner;
        int poured;
        int stock;
        int minutesLate;
        final int[] comes = new int[MOST_BUYERS];
        final int[] goes = new int[MOST_BUYERS];
        final int[] begins = new int[MOST_BUYERS];
        final int[] servedAt = new int[MOST_BUYERS];
        final int[] drunk = new int[MOST_BUYERS];
        final int[] left = new int[MOST_BUYERS];
        final int[] free = new int[MOST_WOMEN];
        int behind;
        int had;

        Round(Plan plan, State at) {
            this.plan = plan;
            this.at = at;
        }

        void layOut(Plan ofPlan, State atState) {
            plan = ofPlan;
            at = atState;
            rule = BY_ORDER;
            group = 0;
            runner = NONE;
            poured = NONE;
            stock = 0;
            minutesLate = 0;
        }

        void play() {
            makeReady();
            int second = 0;
            for (int n = 0; n <= LONGEST_STOP && second < plan.stop; n++) {
                serveWaiting(second);
                second = nextSecond(second);
            }
            for (int i = 0; i < plan.buyers; i++) {
                if (isOut(i)) {
                    endFor(i);
                }
            }
        }

        private boolean isOut(int who) {
            return (at.out >> who & 1) != 0;
        }

        private void makeReady() {
            behind = 0;
            had = 0;
            for (int w = 0; w < free.length; w++) {
                free[w] = 0;
            }
            for (int i = 0; i < plan.buyers; i++) {
                int way = plan.wayOf(i, at.urn);
                comes[i] = plan.buyer[i].kind == EARLY ? 0 : way;
                goes[i] = plan.goesAt(way, at.bell);
                begins[i] = NONE;
                servedAt[i] = NONE;
                drunk[i] = 0;
                left[i] = 0;
            }
        }

        // Between these seconds nobody comes and no woman gets free, so nothing can begin there.
        private int nextSecond(int second) {
            int next = plan.stop;
            for (int i = 0; i < plan.buyers; i++) {
                if (isOut(i) && comes[i] > second) {
                    next = Math.min(next, comes[i]);
                }
            }
            for (int w = 0; w < free.length; w++) {
                if (free[w] > second) {
                    next = Math.min(next, free[w]);
                }
            }
            return next;
        }

        private void serveWaiting(int second) {
            for (int w = 0; w < at.women && w < free.length; w++) {
                if (free[w] <= second) {
                    int who = nextServed(second);
                    if (who == NONE) {
                        return;
                    }
                    begin(who, second);
                    free[w] = servedAt[who];
                }
            }
        }

        private int nextServed(int second) {
            int who = NONE;
            int least = 0;
            for (int i = 0; i < plan.buyers; i++) {
                if (isOut(i) && begins[i] == NONE && comes[i] <= second && second < goes[i]) {
                    int rank = rankOf(i, second);
                    if (who == NONE || rank < least || rank == least && comes[i] < comes[who]) {
                        who = i;
                        least = rank;
                    }
                }
            }
            return who;
        }

        private int rankOf(int who, int second) {
            int exact = plan.buyer[who].kind == POUND ? 0 : 1;
            if (rule == BY_COMING) {
                return 0;
            }
            if (rule == BY_EXACT) {
                return 1 - exact;
            }
            int many = 0;
            for (int i = 0; i < plan.buyers; i++) {
                many += wantsToo(who, i) ? plan.buyer[i].many : 0;
            }
            return plan.order.value(plan.farOf(who, at.urn), second - comes[who], exact, many);
        }

        private boolean wantsToo(int who, int other) {
            return who == other || who == runner && (group >> other & 1) != 0;
        }

        private void begin(int who, int second) {
            int lasts = plan.buyer[who].kind == POUND ? plan.change : 0;
            for (int i = 0; i < plan.buyers; i++) {
                lasts += wantsToo(who, i) ? plan.secsFor(i) : 0;
            }
            if (stock > 0 && poured >= 0 && (plan.buyer[who].bits >> poured & 1) != 0) {
                stock--;
                had |= 1 << who;
                lasts += 1 - plan.thing[poured].secs;
            }
            begins[who] = second;
            servedAt[who] = second + lasts;
        }

        private void endFor(int who) {
            int gone = goes[who];
            if (servedAt[who] > gone) {
                gone = servedAt[who];
                left[who] = plan.buyer[who].bits;
            } else if (servedAt[who] != NONE) {
                drink(who);
            }
            if (gone + plan.wayOf(who, at.urn) > plan.stop) {
                behind |= 1 << who;
            }
        }

        private void drink(int who) {
            Buyer of = plan.buyer[who];
            int second = servedAt[who];
            boolean inTime = true;
            for (int i = 0; i < of.many; i++) {
                int thing = of.wants[i];
                boolean fromStock = thing == poured && (had >> who & 1) != 0;
                int since = fromStock ? -60 * minutesLate : servedAt[who];
                int from = Math.max(second, since + coolsWithin(thing));
                inTime = inTime && from + plan.sip <= goes[who];
                if (inTime && !(fromStock && heatOf(thing, from - since) < TOO_COLD)) {
                    drunk[who] |= 1 << thing;
                    second = from + plan.sip;
                } else {
                    left[who] |= 1 << thing;
                    second = from;
                }
            }
        }

        private int coolsWithin(int thing) {
            Thing of = plan.thing[thing];
            int tooHot = at.hot[thing] - plan.lips;
            if (of.sort == PIE || tooHot <= 0) {
                return 0;
            }
            if (of.cools <= 0) {
                return NEVER;
            }
            return (60 * tooHot + of.cools - 1) / of.cools;
        }

        private int heatOf(int thing, int seconds) {
            return Math.max(0, at.hot[thing] - plan.thing[thing].cools * seconds / 60);
        }

        int paid() {
            int pence = 0;
            for (int i = 0; i < plan.buyers; i++) {
                pence += servedAt[i] != NONE ? plan.priceFor(i) : 0;
            }
            return pence;
        }

        int pouredBack() {
            int pence = 0;
            for (int i = 0; i < plan.buyers; i++) {
                for (int t = 0; t < plan.things; t++) {
                    if ((left[i] >> t & 1) != 0 && plan.thing[t].sort != PIE) {
                        pence += plan.thing[t].price / 2;
                    }
                }
            }
            return pence;
        }

        int drunkInAll() {
            int many = 0;
            for (int i = 0; i < plan.buyers; i++) {
                many += Integer.bitCount(drunk[i]);
            }
            return many;
        }

        int leftInAll() {
            int many = 0;
            for (int i = 0; i < plan.buyers; i++) {
                many += Integer.bitCount(left[i]);
            }
            return many;
        }

        int servedBy(int second) {
            int many = 0;
            for (int i = 0; i < plan.buyers; i++) {
                if (servedAt[i] != NONE && servedAt[i] <= second) {
                    many++;
                }
            }
            return many;
        }
    }
}
