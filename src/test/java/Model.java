import java.util.ArrayList;
import java.util.Arrays;
import java.util.LinkedHashMap;
import java.util.List;
import java.util.Map;
import java.util.NoSuchElementException;
import java.util.Set;

/**
 * The document once more, told as slowly as it says it: every second of a ROUND is gone through,
 * every THING is looked at second by second. It shares nothing with TeaJunction, so that one
 * can be held against the other.
 */
final class Model {
    static final Set<String> KEPT = Set.of("stop", "bell", "coach", "yards", "thing", "secs", "price",
            "hot", "cools", "buyer", "odds", "dear", "wants", "women", "change", "lips", "sip", "pace",
            "late", "order", "out", "in", "urn", "run", "tea", "soup", "pie", "plain", "pound", "early",
            "not", "and", "or");

    static final class Fault extends RuntimeException {
        final int code;

        Fault(int kind, int place) {
            code = kind + 16 * place;
        }
    }

    record Token(char kind, String text, int place) {
    }

    interface Rank {
        int of(Map<String, Integer> facts);
    }

    static final class Coach {
        String name;
        int yards;
    }

    static final class Goods {
        String name;
        String sort;
        int secs;
        int price;
        int hot;
        int cools;
    }

    static final class Person {
        String name;
        String kind;
        int coach;
        int odds;
        int dear;
        List<Integer> wants = new ArrayList<>();
    }

    static final class Told {
        int stop = 600;
        int bell = 540;
        int women = 2;
        int change = 10;
        int lips = 60;
        int sip = 30;
        int pace = 5;
        int[] late = {10, 0, 0, 0};
        Rank order = facts -> 0;
        List<Coach> coaches = new ArrayList<>();
        List<Goods> goods = new ArrayList<>();
        List<Person> people = new ArrayList<>();
        Map<String, Character> names = new LinkedHashMap<>();
    }

    record Line(String word, int which, int to) {
    }

    static final class Hand {
        boolean[] out = new boolean[6];
        int bell;
        int urn;
        int women;
        int[] hot = new int[5];

        Hand copy() {
            Hand h = new Hand();
            h.out = out.clone();
            h.bell = bell;
            h.urn = urn;
            h.women = women;
            h.hot = hot.clone();
            return h;
        }
    }

    record Mark(Hand hand, List<Line> days, List<int[]> sold, List<int[]> seen) {
    }

    final StringBuilder tape = new StringBuilder();
    Told told = new Told();
    Hand hand = fresh();
    List<Line> days = new ArrayList<>();
    List<int[]> sold = new ArrayList<>();
    List<int[]> seen = new ArrayList<>();
    Mark[] marks = new Mark[4];
    List<Hand> before = new ArrayList<>();

    // ---- reading

    private List<Token> tokens = List.of();
    private int at;
    private Told reading;

    static List<Token> split(String text) {
        List<Token> all = new ArrayList<>();
        int i = 0;
        while (i < text.length()) {
            char c = text.charAt(i);
            if (c == ' ' || c == '\n') {
                i++;
                continue;
            }
            int j = i;
            if (c >= 'a' && c <= 'z') {
                while (j < text.length() && text.charAt(j) >= 'a' && text.charAt(j) <= 'z') {
                    j++;
                }
                all.add(new Token(j - i <= 8 ? 'w' : '?', text.substring(i, j), i));
            } else if (c >= '0' && c <= '9') {
                while (j < text.length() && text.charAt(j) >= '0' && text.charAt(j) <= '9') {
                    j++;
                }
                all.add(new Token(j - i <= 4 ? 'n' : '?', text.substring(i, j), i));
            } else {
                j++;
                all.add(new Token("()<=+-*;".indexOf(c) >= 0 ? 's' : '?', text.substring(i, j), i));
            }
            i = j;
        }
        all.add(new Token('e', "", text.length()));
        return all;
    }

    private Token head() {
        return tokens.get(at);
    }

    private boolean is(String text) {
        return (head().kind == 'w' || head().kind == 's') && head().text.equals(text);
    }

    private Fault fault(int kind) {
        return new Fault(kind, head().place);
    }

    private void need(String text) {
        if (!is(text)) {
            throw fault(1);
        }
        at++;
    }

    private int number(int low, int high) {
        if (head().kind != 'n') {
            throw fault(1);
        }
        int n = Integer.parseInt(head().text);
        if (n < low || n > high) {
            throw fault(4);
        }
        at++;
        return n;
    }

    private boolean nameStands() {
        return head().kind == 'w' && !KEPT.contains(head().text);
    }

    private String newName() {
        if (!nameStands()) {
            throw fault(1);
        }
        if (reading.names.containsKey(head().text)) {
            throw fault(3);
        }
        return tokens.get(at++).text;
    }

    private int known(Told of, char kind) {
        if (!nameStands()) {
            throw fault(1);
        }
        String name = head().text;
        if (of.names.getOrDefault(name, '-') != kind) {
            throw fault(2);
        }
        at++;
        int k = 0;
        for (Map.Entry<String, Character> e : of.names.entrySet()) {
            if (e.getKey().equals(name)) {
                return k;
            }
            if (e.getValue() == kind) {
                k++;
            }
        }
        throw new IllegalStateException();
    }

    int junction() {
        String text = tape.toString();
        tape.setLength(0);
        tokens = split(text);
        at = 0;
        reading = new Told();
        List<String> lines = new ArrayList<>();
        try {
            while (head().kind != 'e') {
                line(lines);
            }
        } catch (Fault f) {
            return f.code;
        }
        told = reading;
        hand = fresh();
        days = new ArrayList<>();
        sold = new ArrayList<>();
        seen = new ArrayList<>();
        before.clear();
        marks = new Mark[4];
        return 0;
    }

    private void line(List<String> lines) {
        String word = head().kind == 'w' ? head().text : "";
        switch (word) {
            case "coach" -> {
                if (reading.coaches.size() == 6) {
                    throw fault(5);
                }
                at++;
                Coach c = new Coach();
                c.name = newName();
                need("yards");
                c.yards = number(0, 200);
                reading.coaches.add(c);
                reading.names.put(c.name, 'c');
            }
            case "thing" -> {
                if (reading.goods.size() == 5) {
                    throw fault(5);
                }
                at++;
                goods();
            }
            case "buyer" -> {
                if (reading.people.size() == 6) {
                    throw fault(5);
                }
                at++;
                person();
            }
            case "stop", "women", "change", "lips", "sip", "pace", "late", "order" -> {
                if (lines.contains(word)) {
                    throw fault(3);
                }
                lines.add(word);
                at++;
                once(word);
            }
            default -> throw fault(1);
        }
        need(";");
    }

    private void goods() {
        Goods g = new Goods();
        g.name = newName();
        if (!is("tea") && !is("soup") && !is("pie")) {
            throw fault(1);
        }
        g.sort = tokens.get(at++).text;
        need("secs");
        g.secs = number(1, 60);
        need("price");
        g.price = number(1, 99);
        need("hot");
        g.hot = number(0, 99);
        need("cools");
        g.cools = number(0, 20);
        reading.goods.add(g);
        reading.names.put(g.name, 't');
    }

    private void person() {
        Person p = new Person();
        p.name = newName();
        if (!is("plain") && !is("pound") && !is("early")) {
            throw fault(1);
        }
        p.kind = tokens.get(at++).text;
        need("coach");
        p.coach = known(reading, 'c');
        need("odds");
        p.odds = number(0, 10);
        need("dear");
        p.dear = number(0, 99);
        need("wants");
        do {
            int from = at;
            int t = known(reading, 't');
            if (p.wants.contains(t)) {
                throw new Fault(3, tokens.get(from).place);
            }
            if (p.wants.size() == 3) {
                throw new Fault(5, tokens.get(from).place);
            }
            p.wants.add(t);
        } while (!is(";"));
        reading.people.add(p);
        reading.names.put(p.name, 'b');
    }

    private void once(String word) {
        switch (word) {
            case "stop" -> {
                reading.stop = number(60, 900);
                need("bell");
                reading.bell = number(1, reading.stop);
            }
            case "women" -> reading.women = number(1, 2);
            case "change" -> reading.change = number(0, 60);
            case "lips" -> reading.lips = number(0, 99);
            case "sip" -> reading.sip = number(1, 120);
            case "pace" -> reading.pace = number(1, 30);
            case "late" -> {
                int sum = 0;
                for (int i = 0; i < 4; i++) {
                    int place = head().place;
                    reading.late[i] = number(0, 10);
                    sum += reading.late[i];
                    if (i == 3 && sum != 10) {
                        throw new Fault(4, place);
                    }
                }
            }
            default -> reading.order = whole(0);
        }
    }

    private static int truth(boolean b) {
        return b ? 1 : 0;
    }

    private Rank whole(int inside) {
        Rank left = test(inside);
        while (is("and") || is("or")) {
            boolean and = is("and");
            at++;
            Rank a = left;
            Rank b = test(inside);
            left = and ? f -> truth(a.of(f) != 0 & b.of(f) != 0) : f -> truth(a.of(f) != 0 | b.of(f) != 0);
        }
        return left;
    }

    private Rank test(int inside) {
        Rank a = sum(inside);
        if (is("<")) {
            at++;
            Rank b = sum(inside);
            return f -> truth(a.of(f) < b.of(f));
        }
        if (is("=")) {
            at++;
            Rank b = sum(inside);
            return f -> truth(a.of(f) == b.of(f));
        }
        return a;
    }

    private Rank sum(int inside) {
        Rank left = product(inside);
        while (is("+") || is("-")) {
            boolean plus = is("+");
            at++;
            Rank a = left;
            Rank b = product(inside);
            left = plus ? f -> a.of(f) + b.of(f) : f -> a.of(f) - b.of(f);
        }
        return left;
    }

    private Rank product(int inside) {
        Rank left = part(inside);
        while (is("*")) {
            at++;
            Rank a = left;
            Rank b = part(inside);
            left = f -> a.of(f) * b.of(f);
        }
        return left;
    }

    private Rank part(int inside) {
        boolean number = head().kind == 'n';
        boolean fact = is("far") || is("waits") || is("exact") || is("many");
        if (!number && !fact && !is("not") && !is("(")) {
            throw fault(1);
        }
        if (inside == 5) {
            throw fault(5);
        }
        Token token = tokens.get(at++);
        if (number) {
            int n = Integer.parseInt(token.text);
            return f -> n;
        }
        if (fact) {
            return f -> f.get(token.text);
        }
        if (token.text.equals("not")) {
            Rank a = part(inside + 1);
            return f -> truth(a.of(f) == 0);
        }
        Rank a = whole(inside + 1);
        need(")");
        return a;
    }

    int days() {
        String text = tape.toString();
        tape.setLength(0);
        tokens = split(text);
        at = 0;
        List<Line> lines = new ArrayList<>();
        try {
            while (head().kind != 'e') {
                lines.add(dayLine(lines.size()));
            }
        } catch (Fault f) {
            return f.code;
        }
        days = lines;
        return 0;
    }

    private Line dayLine(int ahead) {
        String word = head().kind == 'w' ? head().text : "";
        if (!Set.of("out", "in", "bell", "urn", "women", "hot", "run").contains(word)) {
            throw fault(1);
        }
        if (ahead == 40) {
            throw fault(5);
        }
        at++;
        int which = 0;
        int to = 0;
        switch (word) {
            case "out", "in" -> which = known(told, 'b');
            case "bell" -> to = number(1, 900);
            case "urn" -> to = number(0, 200);
            case "women" -> to = number(1, 2);
            case "hot" -> {
                which = known(told, 't');
                to = number(0, 99);
            }
            default -> { }
        }
        need(";");
        return new Line(word, which, to);
    }

    // ---- what is done by hand

    Hand fresh() {
        Hand h = new Hand();
        h.bell = told.bell;
        h.women = told.women;
        for (int i = 0; i < told.goods.size(); i++) {
            h.hot[i] = told.goods.get(i).hot;
        }
        return h;
    }

    private boolean person(int i) {
        return i >= 0 && i < told.people.size();
    }

    private boolean goods(int i) {
        return i >= 0 && i < told.goods.size();
    }

    private boolean poured(int i) {
        return goods(i) && !told.goods.get(i).sort.equals("pie");
    }

    private static boolean differs(Hand a, Hand b) {
        return !Arrays.equals(a.out, b.out) || a.bell != b.bell || a.urn != b.urn || a.women != b.women
                || !Arrays.equals(a.hot, b.hot);
    }

    /** The hand after it is done, or null where it can't be. */
    private Hand done(Hand h, String word, int which, int to) {
        Hand n = h.copy();
        switch (word) {
            case "out", "in" -> {
                if (!person(which)) {
                    return null;
                }
                n.out[which] = word.equals("out");
            }
            case "bell" -> n.bell = to;
            case "urn" -> n.urn = to;
            case "women" -> n.women = to;
            default -> {
                if (!goods(which)) {
                    return null;
                }
                n.hot[which] = to;
            }
        }
        boolean right = n.bell >= 1 && n.bell <= told.stop && n.urn >= 0 && n.urn <= 200
                && n.women >= 1 && n.women <= 2;
        for (int hot : n.hot) {
            right &= hot >= 0 && hot <= 99;
        }
        return right ? n : null;
    }

    private boolean hand(String word, int which, int to) {
        Hand n = done(hand, word, which, to);
        if (n == null || !differs(n, hand)) {
            return false;
        }
        before.add(hand);
        if (before.size() > 16) {
            before.remove(0);
        }
        hand = n;
        return true;
    }

    boolean out(int buyer, boolean out) {
        return hand(out ? "out" : "in", buyer, 0);
    }

    boolean set(int what, int to) {
        return what >= 0 && what <= 2 && hand(what == 0 ? "bell" : what == 1 ? "urn" : "women", 0, to);
    }

    boolean heats(int thing, int hot) {
        return hand("hot", thing, hot);
    }

    boolean undo() {
        if (before.isEmpty()) {
            return false;
        }
        hand = before.remove(before.size() - 1);
        return true;
    }

    // ---- the round

    final class Game {
        Hand h;
        int rule;
        List<Integer> group = List.of();
        int runner = -1;
        int ahead = -1;
        int stock;
        int late;
        int n = told.people.size();
        int[] comes = new int[n];
        int[] goes = new int[n];
        int[] begins = new int[n];
        int[] served = new int[n];
        boolean[] had = new boolean[n];
        int[] drunk = new int[n];
        int[] left = new int[n];
        boolean[] behind = new boolean[n];

        Game(Hand h) {
            this.h = h;
        }

        int far(int i) {
            return Math.abs(told.coaches.get(told.people.get(i).coach).yards - h.urn);
        }

        int way(int i) {
            return far(i) * told.pace / 10;
        }

        List<Integer> wants(int i) {
            List<Integer> all = new ArrayList<>(told.people.get(i).wants);
            if (i == runner) {
                for (int k : group) {
                    if (k != i) {
                        all.addAll(told.people.get(k).wants);
                    }
                }
            }
            return all;
        }

        Game play() {
            for (int i = 0; i < n; i++) {
                comes[i] = told.people.get(i).kind.equals("early") ? 0 : way(i);
                goes[i] = Math.max(0, Math.min(h.bell, told.stop - way(i)));
                begins[i] = -1;
                served[i] = -1;
            }
            int[] free = new int[h.women];
            for (int t = 0; t <= told.stop; t++) {
                for (int w = 0; w < h.women; w++) {
                    if (free[w] > t) {
                        continue;
                    }
                    int best = -1;
                    for (int i = 0; i < n; i++) {
                        boolean waits = h.out[i] && comes[i] <= t && begins[i] < 0 && t < goes[i];
                        if (waits && (best < 0 || ahead(i, best, t))) {
                            best = i;
                        }
                    }
                    if (best >= 0) {
                        free[w] = serve(best, t);
                    }
                }
            }
            for (int i = 0; i < n; i++) {
                if (h.out[i]) {
                    end(i);
                }
            }
            return this;
        }

        private boolean ahead(int i, int k, int t) {
            if (rank(i, t) != rank(k, t)) {
                return rank(i, t) < rank(k, t);
            }
            return comes[i] < comes[k];
        }

        private int rank(int i, int t) {
            int exact = told.people.get(i).kind.equals("pound") ? 0 : 1;
            return switch (rule) {
                case 1 -> 0;
                case 2 -> -exact;
                default -> told.order.of(Map.of("far", far(i), "waits", t - comes[i], "exact", exact,
                        "many", wants(i).size()));
            };
        }

        private int serve(int i, int t) {
            int lasts = told.people.get(i).kind.equals("pound") ? told.change : 0;
            for (int g : wants(i)) {
                if (g == ahead && stock > 0 && !had[i]) {
                    stock--;
                    had[i] = true;
                    lasts += 1;
                } else {
                    lasts += told.goods.get(g).secs;
                }
            }
            begins[i] = t;
            served[i] = t + lasts;
            return served[i];
        }

        private void end(int i) {
            int gone = goes[i];
            if (served[i] > goes[i]) {
                gone = served[i];
                for (int g : told.people.get(i).wants) {
                    left[i] |= 1 << g;
                }
            } else if (served[i] >= 0) {
                drink(i);
            }
            behind[i] = gone + way(i) > told.stop;
        }

        private void drink(int i) {
            int t = served[i];
            for (int g : told.people.get(i).wants) {
                Goods of = told.goods.get(g);
                boolean old = had[i] && g == ahead;
                int since = old ? -60 * late : served[i];
                while (t <= 2000 && !of.sort.equals("pie") && heat(g, t - since) > told.lips) {
                    t++;
                }
                if (old && heat(g, t - since) < 20) {
                    left[i] |= 1 << g;
                } else if (t + told.sip <= goes[i]) {
                    t += told.sip;
                    drunk[i] |= 1 << g;
                } else {
                    left[i] |= 1 << g;
                    t = 5000;
                }
            }
        }

        private int heat(int g, int seconds) {
            return Math.max(0, h.hot[g] - told.goods.get(g).cools * seconds / 60);
        }

        int pence() {
            int sum = 0;
            for (int i = 0; i < n; i++) {
                if (served[i] >= 0) {
                    for (int g : told.people.get(i).wants) {
                        sum += told.goods.get(g).price;
                    }
                }
            }
            return sum;
        }

        int drunk() {
            return Arrays.stream(drunk).map(Integer::bitCount).sum();
        }

        int left() {
            return Arrays.stream(left).map(Integer::bitCount).sum();
        }

        int behind() {
            int sum = 0;
            for (boolean b : behind) {
                sum += truth(b);
            }
            return sum;
        }

        int servedBy(int second) {
            return (int) Arrays.stream(served).filter(s -> s >= 0 && s <= second).count();
        }
    }

    // ---- questions

    int thing(int t, int what) {
        if (!goods(t)) {
            return -1;
        }
        Goods g = told.goods.get(t);
        return switch (what) {
            case 0 -> g.sort.equals("tea") ? 0 : g.sort.equals("soup") ? 1 : 2;
            case 1 -> g.secs;
            case 2 -> g.price;
            case 3 -> hand.hot[t];
            case 4 -> g.cools;
            default -> -1;
        };
    }

    int buyer(int b, int what) {
        if (!person(b)) {
            return -1;
        }
        Person p = told.people.get(b);
        Game g = new Game(hand);
        return switch (what) {
            case 0 -> p.kind.equals("plain") ? 0 : p.kind.equals("pound") ? 1 : 2;
            case 1 -> p.coach;
            case 2 -> p.odds;
            case 3 -> p.dear;
            case 4 -> p.wants.stream().mapToInt(t -> 1 << t).sum();
            case 5 -> truth(hand.out[b]);
            case 6 -> g.way(b);
            case 7 -> g.play().goes[b];
            default -> -1;
        };
    }

    int judged(int what) {
        if (what < 0 || what > 2) {
            return -2;
        }
        Hand h = fresh();
        int[] answer = {-1, 0, 0};
        for (int i = 0; i < days.size(); i++) {
            Line l = days.get(i);
            boolean changes;
            if (l.word.equals("run")) {
                Game g = new Game(h).play();
                answer[1] += g.pence();
                answer[2] += g.drunk();
                changes = g.drunk() > 0;
            } else {
                Hand n = done(h, l.word, l.which, l.to);
                changes = n != null && differs(n, h);
                h = n == null ? h : n;
            }
            if (!changes && answer[0] < 0) {
                answer[0] = i;
            }
        }
        return answer[what];
    }

    int served(int b, int what) {
        if (!person(b) || !hand.out[b]) {
            return -2;
        }
        Game g = new Game(hand).play();
        return switch (what) {
            case 0 -> g.begins[b];
            case 1 -> g.served[b];
            case 2 -> g.drunk[b];
            case 3 -> g.left[b];
            case 4 -> truth(g.behind[b]);
            default -> -2;
        };
    }

    int round(int what) {
        Game g = new Game(hand).play();
        return switch (what) {
            case 0 -> g.pence();
            case 1 -> g.drunk();
            case 2 -> g.left();
            case 3 -> g.behind();
            case 4 -> g.servedBy(1000000);
            default -> -1;
        };
    }

    private static Hand outs(Hand h, int bits) {
        Hand n = h.copy();
        for (int i = 0; i < 6; i++) {
            n.out[i] = (bits >> i & 1) != 0;
        }
        return n;
    }

    int chance(int b) {
        if (!person(b)) {
            return -1;
        }
        return (int) (chanceFrom(0, b, 0) * 1000000 / Math.round(Math.pow(10, told.people.size() - 1)));
    }

    private long chanceFrom(int i, int b, int bits) {
        if (i == told.people.size()) {
            Game g = new Game(outs(hand, bits)).play();
            return truth(Integer.bitCount(g.drunk[b]) == told.people.get(b).wants.size() && !g.behind[b]);
        }
        if (i == b) {
            return chanceFrom(i + 1, b, bits | 1 << i);
        }
        int odds = told.people.get(i).odds;
        long sum = 0;
        if (odds > 0) {
            sum += odds * chanceFrom(i + 1, b, bits | 1 << i);
        }
        if (odds < 10) {
            sum += (10 - odds) * chanceFrom(i + 1, b, bits);
        }
        return sum;
    }

    private int outBits() {
        int bits = 0;
        for (int i = 0; i < 6; i++) {
            bits |= truth(hand.out[i]) << i;
        }
        return bits;
    }

    private int gain(int bits, int i) {
        Game g = new Game(outs(hand, bits)).play();
        return 10 * Integer.bitCount(g.drunk[i]) - 3 * (bits >> i & 1) - 50 * truth(g.behind[i]);
    }

    int rests(int buyers, int what) {
        int n = told.people.size();
        if (buyers <= 0 || buyers >= 1 << n || Integer.bitCount(buyers) > 4 || what < -1) {
            throw new NoSuchElementException();
        }
        List<Integer> all = new ArrayList<>();
        for (int choice = 0; choice < 1 << n; choice++) {
            if ((choice | buyers) != buyers) {
                continue;
            }
            boolean rests = true;
            for (int i = 0; i < n; i++) {
                if ((buyers & 1 << i) != 0) {
                    int bits = outBits() & ~buyers | choice;
                    rests &= gain(bits, i) >= gain(bits ^ 1 << i, i);
                }
            }
            if (rests) {
                all.add(choice);
            }
        }
        if (what == -1) {
            return all.size();
        }
        if (what >= all.size()) {
            throw new NoSuchElementException();
        }
        return all.get(what);
    }

    int errand(int buyers, int what) {
        int n = told.people.size();
        if (buyers <= 0 || buyers >= 1 << n || what < 0 || what > 2) {
            return -1;
        }
        List<Integer> group = new ArrayList<>();
        for (int i = 0; i < n; i++) {
            if ((buyers & 1 << i) != 0) {
                group.add(i);
            }
        }
        int can = 0;
        int[] first = {-1, -1};
        for (int i : group) {
            Game g = new Game(outs(hand, outBits() & ~buyers | 1 << i));
            g.group = group;
            g.runner = i;
            g.play();
            if (g.served[i] >= 0 && g.served[i] <= g.goes[i]) {
                can |= 1 << i;
                if (first[0] < 0 || g.served[i] < first[1]) {
                    first = new int[] {i, g.served[i]};
                }
            }
        }
        return what == 0 ? can : first[what - 1];
    }

    int table(int women, int rule) {
        if (women < 1 || women > 2 || rule < 0 || rule > 2) {
            return -1;
        }
        Hand h = hand.copy();
        h.women = women;
        Game g = new Game(h);
        g.rule = rule;
        return g.play().drunk();
    }

    int stand() {
        int[] drunk = new int[21];
        for (int i = 0; i <= 20; i++) {
            Hand h = hand.copy();
            h.urn = 10 * i;
            drunk[i] = new Game(h).play().drunk();
        }
        return 10 * firstGreatest(drunk);
    }

    private static int firstGreatest(int[] of) {
        int best = 0;
        for (int i = of.length - 1; i >= 0; i--) {
            if (of[i] >= of[best]) {
                best = i;
            }
        }
        return best;
    }

    int ring() {
        int[] drunk = new int[told.stop];
        for (int i = 0; i < told.stop; i++) {
            Hand h = hand.copy();
            h.bell = i + 1;
            Game g = new Game(h).play();
            drunk[i] = g.behind() > 0 ? -1 : g.drunk();
        }
        int best = firstGreatest(drunk);
        return drunk[best] < 0 ? -1 : best + 1;
    }

    int best(int t, boolean pence) {
        if (!poured(t)) {
            return -1;
        }
        int[] worth = new int[100];
        for (int i = 0; i < 100; i++) {
            Hand h = hand.copy();
            h.hot[t] = i;
            Game g = new Game(h).play();
            worth[i] = pence ? g.pence() : g.drunk();
            for (int b = 0; pence && b < g.n; b++) {
                for (int k = 0; k < told.goods.size(); k++) {
                    if ((g.left[b] & 1 << k) != 0 && !told.goods.get(k).sort.equals("pie")) {
                        worth[i] += told.goods.get(k).price / 2;
                    }
                }
            }
        }
        return firstGreatest(worth);
    }

    int tray(int many, int dearer) {
        if (many < 0 || many > 36 || dearer < 0 || dearer > 99) {
            return -1;
        }
        int sum = 0;
        for (Person p : told.people) {
            if (p.dear >= dearer && p.wants.size() <= many) {
                many -= p.wants.size();
                for (int t : p.wants) {
                    sum += told.goods.get(t).price + dearer;
                }
            }
        }
        return sum;
    }

    int price(int many) {
        if (many < 0 || many > 36) {
            return -1;
        }
        int[] worth = new int[100];
        for (int i = 0; i < 100; i++) {
            worth[i] = tray(many, i);
        }
        return firstGreatest(worth);
    }

    int ahead(int t, int many) {
        if (!poured(t) || many < 0 || many > 12) {
            return -1;
        }
        int sum = 0;
        for (int late = 0; late < 4; late++) {
            Game g = new Game(hand);
            g.ahead = t;
            g.stock = many;
            g.late = late;
            g.play();
            sum += told.late[late] * (g.drunk() - g.stock);
        }
        return sum * 1000 / 10;
    }

    int most(int t) {
        if (!poured(t)) {
            return -1;
        }
        int[] worth = new int[13];
        for (int i = 0; i < 13; i++) {
            worth[i] = ahead(t, i);
        }
        return firstGreatest(worth);
    }

    boolean sell(int cold, int many) {
        if (cold < 0 || cold > 9 || many < 0 || many > 99 || sold.size() == 10) {
            return false;
        }
        sold.add(new int[] {cold, many});
        return true;
    }

    int laws(int cold) {
        if (cold < -1 || cold > 9) {
            return -2;
        }
        int many = 0;
        List<Integer> says = new ArrayList<>();
        for (int law = 0; law < 100; law++) {
            int a = law / 10;
            int b = law % 10;
            if (sold.stream().allMatch(s -> s[1] == a + b * s[0])) {
                many++;
                if (!says.contains(a + b * cold)) {
                    says.add(a + b * cold);
                }
            }
        }
        return cold == -1 ? many : says.size() == 1 ? says.get(0) : -2;
    }

    boolean see(int seconds, int served) {
        if (seconds < 0 || seconds > 900 || served < 0 || served > 6 || seen.size() == 6) {
            return false;
        }
        seen.add(new int[] {seconds, served});
        return true;
    }

    int was() {
        Game g = new Game(hand).play();
        int bits = 0;
        for (int late = 0; late < 10; late++) {
            int m = late;
            if (seen.stream().allMatch(s -> g.servedBy(s[0] - 60 * m) == s[1])) {
                bits |= 1 << late;
            }
        }
        return bits;
    }

    int years(int seed, int many, int what) {
        if (seed < 0 || seed > 9999 || many < 1 || many > 60 || what < 0 || what > 2) {
            return -1;
        }
        long g = seed;
        int[] sum = new int[3];
        for (int day = 0; day < many; day++) {
            Hand h = hand.copy();
            for (int i = 0; i < told.people.size(); i++) {
                g = Math.floorMod(g * 1103515245 + 12345, 1L << 31);
                h.out[i] = (g >> 16) % 10 < told.people.get(i).odds;
            }
            Game game = new Game(h).play();
            sum[0] += game.pence();
            sum[1] += game.drunk();
            sum[2] += game.behind();
        }
        return sum[what];
    }

    boolean mark(int m, boolean back) {
        if (m < 0 || m > 3 || back && marks[m] == null) {
            return false;
        }
        if (back) {
            hand = marks[m].hand.copy();
            days = new ArrayList<>(marks[m].days);
            sold = new ArrayList<>(marks[m].sold);
            seen = new ArrayList<>(marks[m].seen);
            before.clear();
        } else {
            marks[m] = new Mark(hand.copy(), new ArrayList<>(days), new ArrayList<>(sold),
                    new ArrayList<>(seen));
        }
        return true;
    }

    int count(int what) {
        return switch (what) {
            case 0 -> told.coaches.size();
            case 1 -> told.goods.size();
            case 2 -> told.people.size();
            case 3 -> told.stop;
            case 4 -> hand.bell;
            case 5 -> hand.urn;
            case 6 -> hand.women;
            case 7 -> outBits();
            case 8 -> days.size();
            case 9 -> sold.size();
            case 10 -> seen.size();
            case 11 -> before.size();
            case 12 -> tape.length();
            default -> -1;
        };
    }
}
