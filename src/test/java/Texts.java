import java.util.ArrayList;
import java.util.List;
import java.util.Random;

/** Texts of LAKES and TALES by a random source, right ones and spoilt ones. */
final class Texts {
    private static final String[] ALL_TOKENS = {"ice", "bears", "shore", "way", "beside", "walker", "weighs", "at",
        "worse", "hour", "better", "send", "to", "step", "frost", "thaw", "any", "when", "in", "wet", "loop", "end",
        "stop", ";", "<", ">", "=", "0", "1", "20", "21", "99", "100", "200", "201", "999", "1000", "00005", "12345",
        "a", "zz", "abcdefgh", "abcdefghi", "?", "A", "\t"};

    private final Random random;
    private List<String> cells = new ArrayList<>();
    private List<String> men = new ArrayList<>();

    Texts(Random random) {
        this.random = random;
    }

    private int upTo(int n) {
        return random.nextInt(n + 1);
    }

    private String any(List<String> names) {
        return names.isEmpty() || random.nextInt(200) == 0 ? "nobody" : names.get(random.nextInt(names.size()));
    }

    private String newName(List<String> taken) {
        while (true) {
            StringBuilder b = new StringBuilder();
            int n = 1 + (random.nextInt(3) == 0 ? upTo(7) : 0);
            for (int k = 0; k < n; k++) {
                b.append((char) ('a' + upTo(25)));
            }
            String name = b.toString();
            if (!taken.contains(name) && !List.of(ALL_TOKENS).subList(0, 23).contains(name)) {
                taken.add(name);
                return name;
            }
        }
    }

    List<String> lake() {
        List<String> out = new ArrayList<>();
        List<String> taken = new ArrayList<>();
        List<String> shores = new ArrayList<>();
        List<String> ice = new ArrayList<>();
        cells = new ArrayList<>();
        men = new ArrayList<>();
        settings(out);
        int n = random.nextInt(12) == 0 ? upTo(3) : 4 + upTo(6);
        int strong = 5 + upTo(40);
        for (int k = 0; k < n; k++) {
            String name = newName(taken);
            cells.add(name);
            if (random.nextInt(3) == 0 || k == n - 1 && shores.isEmpty()) {
                shores.add(name);
                part(out, "shore", name);
            } else {
                ice.add(name);
                int much = random.nextInt(20) == 0 ? upTo(200) : upTo(strong);
                part(out, "ice", name, "bears", Integer.toString(much));
            }
        }
        pairs(out, "way", cells, upTo(3) * n / 2 + upTo(n));
        pairs(out, "beside", ice, upTo(1) * upTo(ice.size()));
        int many = shores.isEmpty() ? 0 : upTo(8);
        int heavy = 1 + upTo(random.nextInt(8) == 0 ? 98 : 14);
        for (int k = 0; k < many; k++) {
            String name = newName(taken);
            men.add(name);
            part(out, "walker", name, "weighs", Integer.toString(1 + upTo(heavy - 1)), "at",
                random.nextInt(3) == 0 ? any(shores) : shores.get(0));
        }
        return out;
    }

    private void settings(List<String> out) {
        if (random.nextInt(2) == 0) {
            part(out, "worse", Integer.toString(upTo(random.nextInt(4) == 0 ? 20 : 4)));
        }
        if (random.nextInt(2) == 0) {
            part(out, "hour", Integer.toString(1 + upTo(random.nextInt(4) == 0 ? 19 : 4)));
        }
        if (random.nextInt(2) == 0) {
            part(out, "better", Integer.toString(upTo(random.nextInt(4) == 0 ? 20 : 3)));
        }
    }

    private void pairs(List<String> out, String word, List<String> names, int many) {
        for (int k = 0; k < many && names.size() > 1; k++) {
            String a = any(names);
            String b = any(names);
            if (!a.equals(b)) {
                part(out, word, a, b);
            }
        }
    }

    private static void part(List<String> out, String... tokens) {
        out.addAll(List.of(tokens));
        out.add(";");
    }

    List<String> tales() {
        List<String> out = new ArrayList<>();
        tales(out, 0, 1 + upTo(7));
        return out;
    }

    private void tales(List<String> out, int depth, int many) {
        for (int k = 0; k < many; k++) {
            int kind = random.nextInt(depth < 3 ? 22 : 16);
            if (kind < 4) {
                part(out, "send", any(men), "to", any(cells));
            } else if (kind < 9) {
                part(out, "step", Integer.toString(1 + upTo(random.nextInt(5) == 0 ? 19 : 3)));
            } else if (kind < 11) {
                part(out, random.nextBoolean() ? "frost" : "thaw", Integer.toString(1 + upTo(4)));
            } else if (kind < 15) {
                part(out, "any");
            } else if (kind < 16) {
                if (random.nextInt(4) == 0) {
                    part(out, "stop");
                }
            } else {
                if (kind < 19) {
                    out.add("when");
                    test(out);
                } else {
                    part(out, "loop", Integer.toString(1 + upTo(random.nextInt(3) == 0 ? 98 : 4)));
                }
                tales(out, depth + 1, upTo(3));
                part(out, "end");
            }
        }
    }

    private void test(List<String> out) {
        switch (random.nextInt(3)) {
            case 0 -> part(out, "bears", any(cells), random.nextBoolean() ? "<" : random.nextBoolean() ? ">" : "=",
                Integer.toString(random.nextInt(10) == 0 ? 999 : upTo(30)));
            case 1 -> part(out, "at", any(men), "in", any(cells));
            default -> part(out, "wet", any(men));
        }
    }

    List<String> spoilt(List<String> right) {
        List<String> out = new ArrayList<>(right);
        int many = 1 + upTo(2);
        for (int k = 0; k < many; k++) {
            int place = upTo(out.size());
            String token = random.nextInt(3) == 0 && !out.isEmpty() ? out.get(random.nextInt(out.size()))
                : ALL_TOKENS[random.nextInt(ALL_TOKENS.length)];
            if (random.nextInt(3) == 0 || out.isEmpty() || place == out.size()) {
                out.add(place, token);
            } else if (random.nextInt(2) == 0) {
                out.remove(place);
            } else {
                out.set(place, token);
            }
        }
        if (random.nextInt(5) == 0) {
            out = new ArrayList<>(out.subList(0, upTo(out.size())));
        }
        return out;
    }

    /** Blanks stand where they must, and elsewhere by chance. */
    String join(List<String> tokens) {
        StringBuilder b = new StringBuilder();
        for (String t : tokens) {
            boolean must = b.length() > 0 && (isWord(b.charAt(b.length() - 1)) && isWord(t.charAt(0))
                || isDigit(b.charAt(b.length() - 1)) && isDigit(t.charAt(0)));
            int blanks = must ? 1 : random.nextInt(6) == 0 ? upTo(2) : 0;
            for (int k = 0; k < blanks; k++) {
                b.append(random.nextInt(6) == 0 ? '\n' : ' ');
            }
            b.append(t);
        }
        return b.toString();
    }

    private static boolean isWord(char c) {
        return c >= 'a' && c <= 'z';
    }

    private static boolean isDigit(char c) {
        return c >= '0' && c <= '9';
    }
}
