import java.lang.reflect.Constructor;
import java.lang.reflect.Field;
import java.lang.reflect.Method;
import java.lang.reflect.Modifier;
import java.nio.file.Files;
import java.nio.file.Path;
import java.util.ArrayList;
import java.util.List;
import java.util.TreeSet;
import java.util.regex.Matcher;
import java.util.regex.Pattern;

/** What can be seen by a machine of the rules of LANGUAGE.md: run where the source is. */
public final class LanguageTest {
    private static final Path SOURCE = Path.of("src/main/java/GooseIce.java");
    private static final String FACE = "status() top() bottom() tray(III) write(IIJ) read(II) pour(IIIII) feed(IIIII) "
        + "lake(I) tales(I) fault(I) told(I) ice(II) walker(II) routeAt(II) way(II) beside(II) within(I) send(III) "
        + "sendTo(II) halt(I) step(I) frost(I) thaw(I) rescue(I) melt(I) weigh(II) hew(IIZ) bears(II) margin(II) "
        + "far(II) wayAt(III) surest(II) surestFar(II) surestAt(III) reach(I) cut(II) cutSet(II) heaviest(I) weakest() "
        + "tooHeavy(I) ready(II) queue(III) queueAt(II) holds() halves(I) half(I) groups(II) trials(II) tryFirst(II) "
        + "suspects(I) odds(IIIII) bestDay(IIIII) meanIn(IIII) live(I) lived(I) mean(II) mark() undo()";
    private static final String FORBIDDEN = "\\b(throw|throws|try|catch|finally|synchronized|assert|var|record|sealed|"
        + "protected|native|volatile|transient|strictfp|float|double|HashMap|Random|System\\.(?!arraycopy)\\w+|Thread|"
        + "Object|Override|format|numberOfTrailingZeros|\\w+Exact)\\b|->|::|@";

    public static void main(String[] args) throws Exception {
        face();
        members();
        String code = Files.readString(SOURCE);
        String bare = code.replaceAll("(?s)/\\*.*?\\*/", "").replaceAll("//[^\n]*", "")
            .replaceAll("\"[^\"]*\"", "\"\"");
        words(bare);
        methods(bare);
        Check.end();
    }

    private static void rule(String what, boolean kept) {
        Check.due(what, kept, true);
    }

    private static void face() {
        TreeSet<String> want = new TreeSet<>(List.of(FACE.split(" ")));
        TreeSet<String> got = new TreeSet<>();
        for (Method m : GooseIce.class.getDeclaredMethods()) {
            if (Modifier.isPublic(m.getModifiers())) {
                StringBuilder b = new StringBuilder(m.getName()).append('(');
                for (Class<?> p : m.getParameterTypes()) {
                    b.append(p.descriptorString());
                }
                got.add(b.append(')').toString());
                TreeSet<String> flags = new TreeSet<>(
                    List.of("tray", "write", "pour", "weigh", "hew", "odds", "meanIn", "mean"));
                TreeSet<String> longs = new TreeSet<>(List.of("top", "bottom", "read"));
                Class<?> gives = flags.contains(m.getName()) ? boolean.class
                    : longs.contains(m.getName()) ? long.class : int.class;
                rule("what " + m.getName() + " gives", m.getReturnType() == gives);
            }
        }
        rule("rule 1: the public methods are the face's: " + got, got.equals(want));
        rule("rule 1: the class is public and final", GooseIce.class.getModifiers()
            == (Modifier.PUBLIC | Modifier.FINAL));
        Constructor<?>[] made = GooseIce.class.getDeclaredConstructors();
        rule("rule 1: one constructor, public", made.length == 1 && Modifier.isPublic(made[0].getModifiers()));
    }

    private static void members() {
        TreeSet<String> names = new TreeSet<>();
        for (String row : FACE.split(" ")) {
            names.add(row.substring(0, row.indexOf('(')));
        }
        List<Class<?>> all = new ArrayList<>(List.of(GooseIce.class));
        all.addAll(List.of(GooseIce.class.getDeclaredClasses()));
        rule("rule 11: at most twelve classes", all.size() <= 12);
        for (Class<?> c : all) {
            if (c != GooseIce.class) {
                rule("rule 1: " + c + " is private, static", Modifier.isPrivate(c.getModifiers())
                    && Modifier.isStatic(c.getModifiers()));
                rule("rule 2: " + c + " has no classes", c.getDeclaredClasses().length == 0);
            }
            for (Method m : c.getDeclaredMethods()) {
                boolean open = c == GooseIce.class && Modifier.isPublic(m.getModifiers());
                rule("rule 1: " + m + " is private", open || Modifier.isPrivate(m.getModifiers()));
                rule("rule 1: " + m + " has a name of its own", open || !names.contains(m.getName()));
                rule("rule 11: " + m + " takes at most seven", m.getParameterCount() <= 7);
            }
            int many = 0;
            for (Field f : c.getDeclaredFields()) {
                boolean constant = Modifier.isStatic(f.getModifiers());
                many += constant ? 0 : 1;
                rule("rule 5: " + f + " is final", !constant || Modifier.isFinal(f.getModifiers()));
                rule("rule 1: " + f + " is private",
                    Modifier.isPrivate(f.getModifiers()) || f.getName().equals("NONE"));
            }
            rule("rule 11: " + c + " has at most twenty fields", many <= 20);
        }
    }

    private static void words(String bare) {
        Matcher m = Pattern.compile(FORBIDDEN).matcher(bare);
        while (m.find()) {
            rule("rules 2 to 6: '" + m.group() + "' can't stand there", false);
        }
        rule("rule 10: no texts joined by +", !bare.contains("\"\" +") && !bare.contains("+ \"\""));
        Matcher imports = Pattern.compile("import ([^;]*);").matcher(bare);
        while (imports.find()) {
            rule("rule 4: " + imports.group(1), imports.group(1).equals("java.util.Arrays"));
        }
        rule("without a package", !bare.contains("package "));
        rule("rule 4: the signs are 1 to 127", bare.chars().allMatch(c -> c > 0 && c < 128));
    }

    private static void methods(String bare) {
        int from = 0;
        String[] lines = bare.split("\n");
        for (int k = 0; k < lines.length; k++) {
            if (lines[k].matches("\\s+(private|public) .*\\) \\{")) {
                from = k;
            } else if (lines[k].matches("( {4}| {8})\\}")) {
                rule("rule 11: the method at line " + (from + 1) + " is short", k - from < 60);
                from = k;
            }
        }
    }
}
