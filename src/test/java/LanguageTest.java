import java.lang.reflect.Constructor;
import java.lang.reflect.Field;
import java.lang.reflect.Method;
import java.lang.reflect.Modifier;
import java.nio.file.Files;
import java.nio.file.Path;
import java.util.ArrayList;
import java.util.List;
import java.util.Map;
import java.util.TreeMap;
import java.util.TreeSet;
import java.util.regex.Matcher;
import java.util.regex.Pattern;

/** What can be seen by a machine of the rules of LANGUAGE.md: run where the source is. */
public final class LanguageTest {
    private static final Path SOURCE = Path.of("src/main/java/GooseIce.java");
    private static final String FACE = "status() top() bottom() tray(III) write(IIJ) read(II) pour(IIIII) feed(IIIII) "
        + "lake(I) tales(I) fault(I) told(I) ice(II) walker(II) routeAt(II) way(II) beside(II) within(I) send(III) "
        + "sendTo(II) halt(I) step(I) frost(I) thaw(I) rescue(I) melt(I) weigh(II) hew(IIZ) bears(II) margin(II) "
        + "far(II) wayAt(III) surest(II) surestFar(II) surestAt(III) reach(I) cut(II) cutSet(II) heaviest(I) weakest() "
        + "tooHeavy(I) ready(II) queue(III) queueAt(II) holds() halves(I) half(I) groups(II) trials(II) tryFirst(II) "
        + "suspects(I) odds(IIIII) bestDay(IIIII) meanIn(IIII) live(I) lived(I) mean(II) mark() undo()";
    private static final String FORBIDDEN = "\\b(throw|throws|try|catch|finally|synchronized|assert|var|record|sealed|"
        + "protected|native|volatile|transient|strictfp|float|double|HashMap|Random|System\\.(?!arraycopy)\\w+|Thread|"
        + "Object|Override|format|numberOfTrailingZeros|\\w+Exact)\\b|->|::|@";

    public static void main(String[] args) throws Exception {
        face();
        members();
        String code = Files.readString(SOURCE);
        String bare = code.replaceAll("(?s)/\\*.*?\\*/", "").replaceAll("//[^\n]*", "")
            .replaceAll("\"[^\"]*\"", "\"\"");
        words(bare);
        methods(bare);
        new Calls(bare).askDepth();
        loops(bare);
        Check.end();
    }

    private static void rule(String what, boolean kept) {
        Check.due(what, kept, true);
    }

    private static void face() {
        TreeSet<String> want = new TreeSet<>(List.of(FACE.split(" ")));
        TreeSet<String> got = new TreeSet<>();
        for (Method m : GooseIce.class.getDeclaredMethods()) {
            if (Modifier.isPublic(m.getModifiers())) {
                StringBuilder b = new StringBuilder(m.getName()).append('(');
                for (Class<?> p : m.getParameterTypes()) {
                    b.append(p.descriptorString());
                }
                got.add(b.append(')').toString());
                TreeSet<String> flags = new TreeSet<>(
                    List.of("tray", "write", "pour", "weigh", "hew", "odds", "meanIn", "mean"));
                TreeSet<String> longs = new TreeSet<>(List.of("top", "bottom", "read"));
                Class<?> gives = flags.contains(m.getName()) ? boolean.class
                    : longs.contains(m.getName()) ? long.class : int.class;
                rule("what " + m.getName() + " gives", m.getReturnType() == gives);
            }
        }
        rule("rule 1: the public methods are the face's: " + got, got.equals(want));
        rule("rule 1: the class is public and final", GooseIce.class.getModifiers()
            == (Modifier.PUBLIC | Modifier.FINAL));
        Constructor<?>[] made = GooseIce.class.getDeclaredConstructors();
        rule("rule 1: one constructor, public", made.length == 1 && Modifier.isPublic(made[0].getModifiers()));
    }

    private static void members() {
        TreeSet<String> names = new TreeSet<>();
        for (String row : FACE.split(" ")) {
            names.add(row.substring(0, row.indexOf('(')));
        }
        List<Class<?>> all = new ArrayList<>(List.of(GooseIce.class));
        all.addAll(List.of(GooseIce.class.getDeclaredClasses()));
        rule("rule 11: at most twelve classes", all.size() <= 12);
        for (Class<?> c : all) {
            if (c != GooseIce.class) {
                rule("rule 1: " + c + " is private, static", Modifier.isPrivate(c.getModifiers())
                    && Modifier.isStatic(c.getModifiers()));
                rule("rule 2: " + c + " has no classes", c.getDeclaredClasses().length == 0);
            }
            for (Method m : c.getDeclaredMethods()) {
                boolean open = c == GooseIce.class && Modifier.isPublic(m.getModifiers());
                rule("rule 1: " + m + " is private", open || Modifier.isPrivate(m.getModifiers()));
                rule("rule 1: " + m + " has a name of its own", open || !names.contains(m.getName()));
                rule("rule 11: " + m + " takes at most seven", m.getParameterCount() <= 7);
            }
            int many = 0;
            for (Field f : c.getDeclaredFields()) {
                boolean constant = Modifier.isStatic(f.getModifiers());
                many += constant ? 0 : 1;
                rule("rule 5: " + f + " is final", !constant || Modifier.isFinal(f.getModifiers()));
                rule("rule 1: " + f + " is private",
                    Modifier.isPrivate(f.getModifiers()) || f.getName().equals("NONE"));
            }
            rule("rule 11: " + c + " has at most twenty fields", many <= 20);
        }
    }

    private static void words(String bare) {
        Matcher m = Pattern.compile(FORBIDDEN).matcher(bare);
        while (m.find()) {
            rule("rules 2 to 6: '" + m.group() + "' can't stand there", false);
        }
        rule("rule 10: no texts joined by +", !bare.contains("\"\" +") && !bare.contains("+ \"\""));
        Matcher imports = Pattern.compile("import ([^;]*);").matcher(bare);
        while (imports.find()) {
            rule("rule 4: " + imports.group(1), imports.group(1).equals("java.util.Arrays"));
        }
        rule("without a package", !bare.contains("package "));
        rule("rule 4: the signs are 1 to 127", bare.chars().allMatch(c -> c > 0 && c < 128));
    }

    private static void methods(String bare) {
        int from = 0;
        String[] lines = bare.split("\n");
        for (int k = 0; k < lines.length; k++) {
            if (lines[k].matches("\\s+(private|public) .*\\) \\{")) {
                from = k;
            } else if (lines[k].matches("( {4}| {8})\\}")) {
                rule("rule 11: the method at line " + (from + 1) + " is short", k - from < 60);
                from = k;
            }
        }
    }

    /** Rule 9: a while has a counter in its own lines; a for without a bound, or a do, would have to be read. */
    private static void loops(String bare) {
        rule("rule 9: no do", !bare.matches("(?s).*\\bdo \\{.*"));
        rule("rule 9: no for without a test", !bare.matches("(?s).*for \\([^;()]*;\\s*;.*"));
        Matcher m = Pattern.compile("while \\((.*)\\) \\{((?s).*?)\n\\s*\\}").matcher(bare);
        while (m.find()) {
            Matcher counter = Pattern.compile("(\\w+) < ").matcher(m.group(1));
            rule("rule 9: while (" + m.group(1) + ") counts",
                counter.find() && m.group(2).contains(counter.group(1) + "++;"));
        }
    }

    /** Who calls whom, by the names in the source: of methods that bear one name in several classes, all are meant. */
    private static final class Calls {
        private static final Pattern HEAD = Pattern.compile(
            "^( {4}| {8})(?:private|public) (?:static )?(?:[\\w\\[\\]]+ )?(\\w+)\\(.*\\) \\{$");
        private static final Pattern CALL = Pattern.compile("([\\w\\]]+\\.)?\\b([a-z]\\w*)\\(");
        private final Map<String, String> bodies = new TreeMap<>();
        private final Map<String, Integer> depths = new TreeMap<>();
        private final List<String> open = new ArrayList<>();

        Calls(String bare) {
            String type = "GooseIce";
            String[] lines = bare.split("\n");
            for (int k = 0; k < lines.length; k++) {
                Matcher inside = Pattern.compile("^ {4}private static final class (\\w+) .*").matcher(lines[k]);
                Matcher head = HEAD.matcher(lines[k]);
                if (inside.matches()) {
                    type = inside.group(1);
                } else if (head.matches()) {
                    StringBuilder body = new StringBuilder();
                    for (k++; !lines[k].equals(head.group(1) + "}"); k++) {
                        body.append(lines[k]).append('\n');
                    }
                    bodies.put(type + "." + head.group(2), body.toString());
                }
            }
        }

        void askDepth() {
            rule("all methods are found", bodies.size() > 150);
            int most = 0;
            for (String method : bodies.keySet()) {
                most = Math.max(most, depth(method));
            }
            rule("rule 11: calls go " + most + " deep, eight are the most", most <= 8);
        }

        private int depth(String method) {
            if (depths.containsKey(method)) {
                return depths.get(method);
            }
            rule("rule 8: " + open + " call one another", !open.contains(method));
            if (open.contains(method)) {
                return 0;
            }
            open.add(method);
            int below = 0;
            for (String called : calledBy(method)) {
                below = Math.max(below, depth(called));
            }
            open.remove(method);
            depths.put(method, below + 1);
            return below + 1;
        }

        private TreeSet<String> calledBy(String method) {
            String type = method.substring(0, method.indexOf('.'));
            TreeSet<String> called = new TreeSet<>();
            Matcher m = CALL.matcher(bodies.get(method));
            while (m.find()) {
                boolean own = m.group(1) == null && bodies.containsKey(type + "." + m.group(2));
                boolean outer = m.group(1) == null && !own;
                for (String other : bodies.keySet()) {
                    boolean fits = own ? other.equals(type + "." + m.group(2))
                        : outer ? other.equals("GooseIce." + m.group(2))
                        : other.endsWith("." + m.group(2)) && !other.startsWith("GooseIce.");
                    // A method that calls itself is recursion, which rule 8 is for.
                    if (fits && !other.equals(method)) {
                        called.add(other);
                    }
                }
            }
            return called;
        }
    }
}
