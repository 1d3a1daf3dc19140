import java.nio.file.Files;
import java.nio.file.Path;

/** The example of README.md stands here line by line, and its answers are those that are said there. */
public final class ReadmeTest {
    public static void main(String[] args) throws Exception {
        example();
        String here = between(Files.readString(Path.of("src/test/java/ReadmeTest.java")), "// from here\n", "// to here\n");
        String there = between(Files.readString(Path.of("README.md")), "```java\n", "```\n");
        Check.same("the example of README.md", plain(there), plain(here));
        Check.due("the example of README.md has lines", plain(there).split("\n").length > 20, true);
        Check.end();
    }

    private static void example() {
        // from here
        GooseIce x = new GooseIce();
        feedAll(x, "shore s;ice a bears 9;shore t;way s a;way a t;hour 3;walker g weighs 5 at s;");
        int cells = x.lake(76);          // 3: CELL 0 is s, 1 is a, 2 is t
        int margin = x.margin(0, 1);     // 2: 9, less 2 as he comes, less his 5
        int steps = x.sendTo(0, 2);      // 2: by a to t
        int kept = x.mark();             // 1
        int broke = x.step(2);           // 0: the set of CELLS that broke
        int where = x.walker(0, 1);      // 2: he is in t
        int strength = x.ice(1, 1);      // 7: one came into it in the last HOUR
        int again = x.sendTo(0, 2);      // NONE: he is there
        int why = x.status();            // 7: it can't be
        int left = x.undo();             // 0: all is as it was at the MARK
        int back = x.walker(0, 1);       // 0: he is in s, with his ROUTE

        boolean told = x.odds(1, 10, 1, 4, 4);
        long top = x.top();              // 1
        long bottom = x.bottom();        // 4: one in four that a bears 10 tomorrow

        feedAll(x, "loop 2; step 1; when at g in a; thaw 5; end; end;");
        int rows = x.tales(49);          // 4: end is none
        int done = x.live(0);            // 6: loop, step, when, thaw, step, when
        int walked = x.lived(1);         // 2

        feedAll(x, "ice a bears 201;");
        int taken = x.lake(16);          // NONE: status() is 9
        int fault = x.fault(0);          // 4: a NUMBER that can't be
        int place = x.fault(1);          // 12: there it stands
        // to here
        answers(cells, 3, margin, 2, steps, 2, kept, 1, broke, 0, where, 2, strength, 7, again, GooseIce.NONE, why, 7);
        answers(left, 0, back, 0, told ? 1 : 0, 1, top, 1, bottom, 4, rows, 4, done, 6, walked, 2);
        answers(taken, GooseIce.NONE, fault, 4, place, 12, x.status(), 9);
    }

    private static void answers(long... gotAndDue) {
        for (int k = 0; k < gotAndDue.length; k += 2) {
            Check.due("answer " + k / 2 + " of the example", gotAndDue[k], gotAndDue[k + 1]);
        }
    }

    private static void feedAll(GooseIce x, String text) {
        for (int k = 0; k < text.length(); k += 20) {
            x.feed(four(text, k), four(text, k + 4), four(text, k + 8), four(text, k + 12), four(text, k + 16));
        }
    }

    private static int four(String text, int from) {
        int v = 0;
        for (int k = from; k < from + 4; k++) {
            v = v << 8 | (k < text.length() ? text.charAt(k) : ' ');
        }
        return v;
    }

    private static String between(String text, String first, String last) {
        int from = text.indexOf(first);
        int to = text.indexOf(last, from + first.length());
        return from < 0 || to < 0 ? "" : text.substring(from + first.length(), to);
    }

    private static String plain(String text) {
        StringBuilder b = new StringBuilder();
        for (String line : text.split("\n")) {
            b.append(line.strip()).append('\n');
        }
        return b.toString().strip();
    }
}
