import java.lang.reflect.Method;
import java.util.Arrays;
import java.util.HashMap;
import java.util.Map;

/**
 * Promises 5 to 60, a number that can't be: of every number of every call the least and the greatest that can be are
 * not STATUS 1, one less, one more and the ends of int are, and then nothing is changed.
 */
public final class RangesTest {
    // A call with numbers that can be, then the bounds of each number in turn; '-' for one that is never STATUS 1.
    private static final String[] CALLS = {
        "tray 0 0 1 | 0..3 0..3 0..60", "write 0 0 1 | 0..3 - -", "read 0 0 | 0..3 -",
        "pour 0 0 0 0 1 | 0..3 0.. 0..3 0.. 0..", "lake 0 | 0..40", "tales 0 | 0..40", "told 0 | 0..9",
        "ice 1 0 | 1..2 0..4", "walker 0 0 | 0..4 0..3", "routeAt 1 0 | 0..4 -", "way 1 0 | 1..5 -", "way 0 1 | - 1..5",
        "beside 1 0 | 1..5 -", "beside 0 1 | - 1..5", "within 0 | 0..5", "send 0 0 1 | 0..4 0..3 1..20",
        "sendTo 0 1 | 0..4 0..5", "halt 1 | 0..4", "step 1 | 1..20", "frost 1 | 1..20", "thaw 1 | 1..20",
        "rescue 2 | 0..4", "melt 1 | 1..2", "weigh 0 1 | 0..4 1..99", "hew 1 0 | 1..5 -", "hew 0 1 | - 1..5",
        "bears 0 0 | 0..4 0..5", "margin 0 0 | 0..4 0..5", "far 0 0 | 0..4 0..5", "wayAt 0 1 0 | 0..4 0..5 -",
        "surest 0 2 | 0..4 1..5", "surestFar 0 2 | 0..4 1..5", "surestAt 0 2 0 | 0..4 1..5 -", "reach 0 | 0..4",
        "cut 0 4 | 0..4 1..5", "cutSet 0 4 | 0..4 1..5", "heaviest 1 | 0..4", "tooHeavy 0 | 0..5",
        "ready 1 0 | 1..2 0..999", "queue 1 0 1 | 1..30 0..3 1..12", "queueAt 0 0 | - 0..1", "halves 1 | 1..31",
        "half 1 | 1..31", "groups 1 9 | 1..31 1..999", "trials 1 1 | 0..60 1..6", "tryFirst 1 1 | 0..60 1..6",
        "suspects 0 | 0..0", "odds 1 0 0 0 0 | 1..2 0..999 0..10 0..16 0..16", "odds 1 0 0 9 7 | - - - 0..9 0..7",
        "bestDay 1 0 0 0 0 | 1..2 0..999 0..10 0..16 0..16", "bestDay 1 0 0 7 9 | - - - 0..7 0..9",
        "meanIn 1 0 0 0 | 1..2 0..10 0..16 0..16", "meanIn 1 0 1 15 | - - 0..1 0..15", "live 0 | 0..9999",
        "lived 0 | 0..4", "mean 0 1 | 0..9999 1..20", "mean 9999 1 | - 1..1", "mean 9980 20 | 0..9980 -"};

    private static final Map<String, Method> METHODS = new HashMap<>();
    private static String untouched;

    public static void main(String[] args) throws Exception {
        for (Method m : GooseIce.class.getDeclaredMethods()) {
            METHODS.put(m.getName(), m);
        }
        untouched = Scene.look(Scene.rich());
        for (String row : CALLS) {
            String[] sides = row.split(" \\| ");
            String[] call = sides[0].split(" ");
            String[] bounds = sides[1].split(" ");
            for (int k = 0; k < bounds.length; k++) {
                if (!bounds[k].equals("-")) {
                    ask(call, k, bounds[k]);
                }
            }
        }
        setsThatCannotBe();
        Check.end();
    }

    private static void ask(String[] call, int place, String bounds) throws Exception {
        String[] ends = bounds.split("\\.\\.");
        int least = Integer.parseInt(ends[0]);
        can(call, place, least);
        cannot(call, place, least - 1);
        cannot(call, place, Integer.MIN_VALUE);
        // Numbers without an upper bound are places, which a TRAY has or not.
        if (ends.length > 1) {
            int most = Integer.parseInt(ends[1]);
            can(call, place, most);
            cannot(call, place, most + 1);
            cannot(call, place, Integer.MAX_VALUE);
        }
    }

    private static Object call(GooseIce x, String[] call, int place, int v) throws Exception {
        Method m = METHODS.get(call[0]);
        Class<?>[] kinds = m.getParameterTypes();
        Object[] numbers = new Object[kinds.length];
        for (int k = 0; k < kinds.length; k++) {
            int n = k == place ? v : k + 1 < call.length ? Integer.parseInt(call[k + 1]) : 0;
            if (kinds[k] == boolean.class) {
                numbers[k] = true;
            } else if (kinds[k] == long.class) {
                numbers[k] = (long) n;
            } else {
                numbers[k] = n;
            }
        }
        return m.invoke(x, numbers);
    }

    private static String shown(String[] call, int place, int v) {
        return Arrays.toString(call) + " with number " + place + " as " + v;
    }

    private static void can(String[] call, int place, int v) throws Exception {
        GooseIce x = Scene.rich();
        call(x, call, place, v);
        Check.due("STATUS 1 of " + shown(call, place, v), x.status() == 1, false);
    }

    private static void cannot(String[] call, int place, int v) throws Exception {
        GooseIce x = Scene.rich();
        Object got = call(x, call, place, v);
        boolean refused = got instanceof Boolean b ? !b : ((Number) got).longValue() == GooseIce.NONE;
        Check.due("refused " + shown(call, place, v), refused, true);
        Check.due("STATUS of " + shown(call, place, v), x.status(), 1);
        Check.same(shown(call, place, v), Scene.look(x), untouched);
    }

    /** Sets are no ranges alone: five WALKERS are too many for a QUEUE, a SHORE is no ICE. */
    private static void setsThatCannotBe() {
        for (int set = 0; set < 64; set++) {
            GooseIce x = Scene.rich();
            x.queue(set, 0, 1);
            boolean wrong = set == 0 || set > 31 || Integer.bitCount(set) > 4;
            Check.due("STATUS 1 of queue(" + set + ", 0, 1)", x.status() == 1, wrong);
            x.suspects(set);
            Check.due("STATUS of suspects(" + set + ")", x.status(), (set & 9) != 0 ? 1 : 0);
        }
    }
}
