import java.util.ArrayList;
import java.util.List;
import java.util.Random;

/** Texts by chance (of a told seed): JUNCTIONS and DAYS, right ones and such with a fault in them. */
final class Texts {
    private static final String[] NAMES = {"ann", "bob", "cis", "dan", "eve", "far", "many", "abcdefgh",
        "waits", "cha", "pot", "bun", "x", "y", "z", "front", "back", "rear", "exact", "q"};
    private static final String[] ODD_BITS = {";", "(", ")", "<", "=", "+", "-", "*", "not", "and", "or",
        "0", "1", "5", "11", "99", "100", "201", "901", "9999", "10000", "abcdefghi", "A", "!", "~", "tea",
        "pie", "plain", "coach", "thing", "buyer", "wants", "stop", "bell", "run", "out", "late", "order",
        "far", "ann", "bob", "front", "nobody", "cha", "60", "10"};

    final Random chance;
    final List<String> coaches = new ArrayList<>();
    final List<String> things = new ArrayList<>();
    final List<String> buyers = new ArrayList<>();

    Texts(long seed) {
        chance = new Random(seed);
    }

    int below(int n) {
        return chance.nextInt(n);
    }

    int from(int low, int high) {
        return low + chance.nextInt(high - low + 1);
    }

    private String pick(String... of) {
        return of[below(of.length)];
    }

    private String newName() {
        for (int i = 0; i < 1000; i++) {
            String name = pick(NAMES);
            if (!coaches.contains(name) && !things.contains(name) && !buyers.contains(name)) {
                return name;
            }
        }
        throw new IllegalStateException();
    }

    private static String anyOf(List<String> of, Random chance) {
        return of.isEmpty() ? "none" : of.get(chance.nextInt(of.size()));
    }

    String junction() {
        coaches.clear();
        things.clear();
        buyers.clear();
        StringBuilder s = new StringBuilder();
        int stop = from(60, below(3) == 0 ? 900 : 400);
        if (below(5) > 0) {
            s.append("stop ").append(stop).append(" bell ").append(from(below(2) * stop / 2 + 1, stop)).append("; ");
        }
        int reach = from(0, 200);
        for (int i = from(1, 6); i > 0; i--) {
            String name = newName();
            s.append("coach ").append(name).append(" yards ").append(from(0, reach)).append(";");
            coaches.add(name);
        }
        for (int i = from(1, 5); i > 0; i--) {
            String name = newName();
            s.append("thing ").append(name).append(pick(" tea", " soup", " pie")).append(" secs ")
                    .append(from(1, below(2) == 0 ? 60 : 20)).append(" price ").append(from(1, 99))
                    .append(" hot ").append(from(below(2) * 60, 99)).append(" cools ").append(from(0, 20)).append(";\n");
            things.add(name);
        }
        for (int i = from(1, 6); i > 0; i--) {
            buyer(s);
        }
        rest(s);
        return s.toString();
    }

    private void buyer(StringBuilder s) {
        String name = newName();
        s.append("buyer ").append(name).append(pick(" plain", " pound", " early")).append(" coach ")
                .append(anyOf(coaches, chance)).append(" odds ").append(pick("0", "10", "5", "" + from(0, 10)))
                .append(" dear ").append(from(0, below(2) == 0 ? 99 : 9)).append(" wants");
        List<String> left = new ArrayList<>(things);
        for (int k = from(1, Math.min(3, left.size())); k > 0; k--) {
            s.append(' ').append(left.remove(below(left.size())));
        }
        s.append(";");
        buyers.add(name);
    }

    private void rest(StringBuilder s) {
        s.append(pick("", "women 1;", "women 2;"));
        s.append(below(2) == 0 ? "" : "change " + from(0, 60) + ";");
        s.append(below(3) == 0 ? "" : "lips " + from(0, 99) + ";");
        s.append(below(3) == 0 ? "" : "sip " + from(1, below(3) == 0 ? 120 : 40) + ";");
        s.append(below(3) == 0 ? "" : "pace " + from(1, below(3) == 0 ? 30 : 8) + ";");
        s.append(pick("", "late 4 3 2 1;", "late 0 0 0 10;", "late 1 2 3 4;", "late 0 5 5 0;"));
        s.append(below(3) == 0 ? "" : "order " + whole(0) + ";");
    }

    private String whole(int inside) {
        StringBuilder s = new StringBuilder(test(inside));
        while (below(4) == 0) {
            s.append(pick(" and ", " or ")).append(test(inside));
        }
        return s.toString();
    }

    private String test(int inside) {
        return below(3) > 0 ? sum(inside) : sum(inside) + pick("<", "=") + sum(inside);
    }

    private String sum(int inside) {
        StringBuilder s = new StringBuilder(product(inside));
        while (below(3) == 0) {
            s.append(pick("+", "-")).append(product(inside));
        }
        return s.toString();
    }

    private String product(int inside) {
        StringBuilder s = new StringBuilder(part(inside));
        while (below(4) == 0) {
            s.append(pick("*", " * ")).append(part(inside));
        }
        return s.toString();
    }

    private String part(int inside) {
        int which = below(inside >= 4 ? 40 : 8);
        if (which == 0) {
            return "not " + part(inside + 1);
        }
        if (which == 1) {
            return "(" + whole(inside + 1) + ")";
        }
        return pick("far", "waits", "exact", "many", "" + from(0, 9), "" + from(0, 9999));
    }

    String days() {
        StringBuilder s = new StringBuilder();
        int lines = below(20) == 0 ? from(38, 42) : from(0, 14);
        for (int i = 0; i < lines; i++) {
            switch (below(9)) {
                case 0, 1, 2 -> s.append("out ").append(anyOf(buyers, chance));
                case 3 -> s.append("in ").append(anyOf(buyers, chance));
                case 4 -> s.append("bell ").append(from(1, 900));
                case 5 -> s.append("urn ").append(from(0, 200));
                case 6 -> s.append("women ").append(from(1, 2));
                case 7 -> s.append("hot ").append(anyOf(things, chance)).append(' ').append(from(0, 99));
                default -> s.append("run");
            }
            s.append(";");
        }
        return s.toString();
    }

    /** The text with something in it put in, left out, doubled or put for another. */
    String spoilt(String text) {
        int at = below(text.length() + 1);
        int to = Math.min(text.length(), at + below(6));
        return switch (below(5)) {
            case 0 -> text.substring(0, at) + " " + pick(ODD_BITS) + " " + text.substring(at);
            case 1 -> text.substring(0, at) + pick(ODD_BITS) + text.substring(to);
            case 2 -> text.substring(0, at) + text.substring(to);
            case 3 -> text.substring(0, at);
            default -> {
                int start = text.lastIndexOf(' ', at) + 1;
                int stop = text.indexOf(' ', at);
                yield text.substring(0, start) + pick(ODD_BITS) + (stop < 0 ? "" : text.substring(stop));
            }
        };
    }
}
