import java.lang.reflect.Method;
import java.util.ArrayList;
import java.util.HashMap;
import java.util.List;
import java.util.Map;
import java.util.Random;

/** Random runs of calls, each answered by GooseIce and by Model: the answers and what can be seen must be alike. */
public final class ModelTest {
    // What each number of a call is: see number().
    private static final String[] CALLS = {
        "2 tray tray sort size", "6 write tray place value", "2 read tray place", "2 pour tray place tray place place",
        "2 told what", "2 ice cell what", "2 walker man what", "2 routeAt man k", "1 way cell cell",
        "1 beside cell cell", "1 within cell", "5 send man tray few", "16 sendTo man cell", "1 halt man",
        "16 step steps", "5 frost few", "2 thaw few", "8 rescue man", "1 melt cell", "2 weigh man weight",
        "2 hew cell cell bool", "2 bears man cell", "2 margin man cell", "3 far man cell", "3 wayAt man cell k",
        "3 surest man cell", "3 surestFar man cell", "3 surestAt man cell k", "2 reach man", "2 cut man cell",
        "2 cutSet man cell", "2 heaviest man", "1 weakest", "2 tooHeavy cell", "2 ready cell much",
        "4 queue set tray few", "3 queueAt k what", "3 holds", "2 halves set", "2 half set", "2 groups set most",
        "1 trials n b", "1 tryFirst n b", "3 suspects cellset", "1 odds cell much days f t",
        "1 bestDay cell much days f t", "1 meanIn cell days f t", "3 live seed", "2 lived what", "1 mean seed steps",
        "1 mark", "2 undo", "1 fault what"};

    private final Random random;
    private final Texts texts;
    private final GooseIce real = new GooseIce();
    private final Model model = new Model();
    private final List<String> told = new ArrayList<>();
    private static final Map<String, Method> REAL = new HashMap<>();
    private static final Map<String, Method> MODEL = new HashMap<>();
    private static final Map<String, Integer> ANSWERED = new HashMap<>();

    private ModelTest(long seed) {
        random = new Random(seed);
        texts = new Texts(random);
    }

    public static void main(String[] args) throws Exception {
        int runs = args.length > 0 ? Integer.parseInt(args[0]) : 600;
        long first = args.length > 1 ? Long.parseLong(args[1]) : 1;
        for (Method m : GooseIce.class.getDeclaredMethods()) {
            if (java.lang.reflect.Modifier.isPublic(m.getModifiers())) {
                REAL.put(m.getName(), m);
                MODEL.put(m.getName(), Model.class.getDeclaredMethod(m.getName(), m.getParameterTypes()));
            }
        }
        for (long seed = first; seed < first + runs; seed++) {
            ModelTest t = new ModelTest(seed);
            if (!t.run()) {
                System.out.println("seed " + seed);
                for (String row : t.told) {
                    System.out.println("  " + row);
                }
                System.exit(1);
            }
        }
        if (args.length > 2) {
            ANSWERED.entrySet().stream().sorted(Map.Entry.comparingByKey())
                .forEach(e -> System.out.println(e.getKey() + " " + e.getValue()));
        }
        System.out.println(runs + " runs are alike");
    }

    private boolean run() throws Exception {
        boolean late = random.nextInt(30) == 0;
        List<String[]> bag = new ArrayList<>();
        for (String row : CALLS) {
            String[] parts = row.split(" ");
            for (int k = 0; k < Integer.parseInt(parts[0]); k++) {
                bag.add(parts);
            }
        }
        if (random.nextInt(10) != 0 && !text("lake", texts.join(texts.lake()))) {
            return false;
        }
        for (int k = 0; k < 499 && late; k++) {
            if (!call("step", new Object[] {20})) {
                return false;
            }
        }
        for (int k = 0; k < 400; k++) {
            boolean alike;
            int kind = random.nextInt(200);
            if (kind == 0) {
                alike = text("lake", texts.join(texts.lake()));
            } else if (kind == 1) {
                alike = text("lake", texts.join(texts.spoilt(texts.lake())));
            } else if (kind < 6) {
                alike = text("tales", texts.join(texts.tales()));
            } else if (kind < 9) {
                alike = text("tales", texts.join(texts.spoilt(texts.tales())));
            } else if (kind < 30) {
                alike = alongWalk();
            } else {
                alike = byChance(bag.get(random.nextInt(bag.size())));
            }
            if (!alike || !looksAlike()) {
                return false;
            }
        }
        return true;
    }

    /** A walk by WAYS from where somebody is, into a TRAY; he is SENT along it, or those with him are a QUEUE there. */
    private boolean alongWalk() throws Exception {
        int men = model.manCount();
        if (men == 0) {
            return true;
        }
        int man = random.nextInt(men);
        int here = model.walker(man, 1);
        int home = here;
        int tray = random.nextInt(4);
        int n = 1 + random.nextInt(random.nextInt(4) == 0 ? 20 : 5);
        if (!call("tray", new Object[] {tray, random.nextInt(4), 20})) {
            return false;
        }
        for (int k = 0; k < n; k++) {
            List<Integer> next = new ArrayList<>();
            for (int c = 0; c < model.told(0); c++) {
                if (c != here && model.way(here, c) == 1) {
                    next.add(c);
                }
            }
            if (!next.isEmpty()) {
                here = next.get(random.nextInt(next.size()));
            }
            if (!call("write", new Object[] {tray, k, (long) here})) {
                return false;
            }
        }
        if (random.nextInt(3) == 0) {
            return call("send", new Object[] {man, tray, n}) && call("heaviest", new Object[] {man})
                && call("holds", new Object[0]);
        }
        int set = model.within(home) & (random.nextInt(3) == 0 ? 255 : random.nextInt(256));
        boolean alike = call("queue", new Object[] {set, tray, Math.min(n, 12)});
        for (int k = 0; k < 5 && alike; k++) {
            alike = call("queueAt", new Object[] {k, 0}) && call("queueAt", new Object[] {k, 1});
        }
        return alike;
    }

    private boolean byChance(String[] call) throws Exception {
        Object[] numbers = new Object[call.length - 2];
        for (int k = 0; k < numbers.length; k++) {
            numbers[k] = number(call[k + 2]);
        }
        if (call[1].equals("write")) {
            numbers[2] = (long) (int) numbers[2];
        }
        return call(call[1], numbers);
    }

    private Object number(String what) {
        if (what.equals("bool")) {
            return random.nextBoolean();
        }
        int wild = random.nextInt(400);
        if (wild < 4) {
            return new int[] {Integer.MIN_VALUE, Integer.MAX_VALUE, -1, 1000}[wild];
        }
        int cells = Math.max(1, model.cellCount());
        int men = Math.max(1, model.manCount());
        return switch (what) {
            case "tray" -> random.nextInt(12) == 0 ? random.nextInt(6) - 1 : random.nextInt(2);
            case "sort" -> random.nextInt(20) == 0 ? random.nextInt(6) - 1 : random.nextInt(4);
            case "size" -> random.nextInt(10) == 0 ? random.nextInt(64) - 1 : random.nextInt(16);
            case "place" -> random.nextInt(8) - (random.nextInt(10) == 0 ? 1 : 0);
            case "value" -> random.nextInt(10) == 0 ? random.nextInt() : random.nextInt(cells);
            case "what" -> random.nextInt(6) - (random.nextInt(10) == 0 ? 1 : 0);
            case "cell" -> random.nextInt(cells + (random.nextInt(20) == 0 ? 1 : 0));
            case "man" -> random.nextInt(men + (random.nextInt(20) == 0 ? 1 : 0));
            case "k" -> random.nextInt(4) - (random.nextInt(10) == 0 ? 1 : 0);
            case "few" -> random.nextInt(10) == 0 ? random.nextInt(24) - 1 : 1 + random.nextInt(4);
            case "steps" -> random.nextInt(6) == 0 ? random.nextInt(23) : 1 + random.nextInt(2);
            case "weight" -> random.nextInt(8) == 0 ? random.nextInt(102) : 1 + random.nextInt(12);
            case "much" -> random.nextInt(8) == 0 ? random.nextInt(1003) - 1 : random.nextInt(40);
            case "set" -> random.nextInt(1 << men);
            case "cellset" -> random.nextInt(3) == 0 ? 0 : random.nextInt(2) == 0 ? 1 << random.nextInt(cells)
                : random.nextInt(1 << cells) & random.nextInt(1 << cells);
            case "most" -> random.nextInt(8) == 0 ? random.nextInt(1003) - 1 : random.nextInt(60);
            case "n" -> random.nextInt(63) - 1;
            case "b" -> random.nextInt(8);
            case "days" -> random.nextInt(12);
            case "f", "t" -> random.nextInt(10);
            case "seed" -> random.nextInt(10) == 0 ? 9990 + random.nextInt(12) : random.nextInt(10000);
            default -> throw new IllegalStateException(what);
        };
    }

    private boolean text(String which, String text) throws Exception {
        int most = which.equals("lake") ? 900 : 300;
        String cut = text.length() > most ? text.substring(0, most) : text;
        byte[] bytes = new byte[(cut.length() + 19) / 20 * 20];
        for (int k = 0; k < cut.length(); k++) {
            bytes[k] = (byte) cut.charAt(k);
        }
        told.add("text: " + cut);
        for (int k = 0; k < bytes.length; k += 20) {
            Object[] five = new Object[5];
            for (int i = 0; i < 5; i++) {
                five[i] = java.nio.ByteBuffer.wrap(bytes).getInt(k + 4 * i);
            }
            if (!call("feed", five)) {
                return false;
            }
        }
        int n = random.nextInt(40) == 0 ? random.nextInt(1000) - 10 : cut.length();
        return call(which, new Object[] {n});
    }

    private boolean call(String name, Object[] numbers) throws Exception {
        String shown = name + java.util.Arrays.toString(numbers);
        MODEL.get(name).setAccessible(true);
        Object want = MODEL.get(name).invoke(model, numbers);
        int wantStatus = model.status();
        told.add(shown + " -> " + want + " status " + wantStatus);
        Object got = REAL.get(name).invoke(real, numbers);
        ANSWERED.merge(name + " " + wantStatus, 1, Integer::sum);
        boolean alike = want.equals(got) && wantStatus == real.status() && model.top() == real.top()
            && model.bottom() == real.bottom() && model.fault(0) == real.fault(0) && model.fault(1) == real.fault(1);
        if (!alike) {
            told.add("GooseIce answered " + got + " status " + real.status() + ", FRACTION " + real.top() + " by "
                + real.bottom() + " (due " + model.top() + " by " + model.bottom() + "), fault " + real.fault(0)
                + " at " + real.fault(1) + " (due " + model.fault(0) + " at " + model.fault(1) + ")");
        }
        return alike;
    }

    private boolean looksAlike() {
        String want = look(model::told, model::ice, model::walker, model::within, model::routeAt);
        String got = look(real::told, real::ice, real::walker, real::within, real::routeAt);
        if (!want.equals(got)) {
            told.add("GooseIce looks like " + got);
            told.add("due is             " + want);
        }
        return want.equals(got);
    }

    private interface One {
        int ask(int a);
    }

    private interface Two {
        int ask(int a, int b);
    }

    private static String look(One told, Two ice, Two walker, One within, Two routeAt) {
        StringBuilder b = new StringBuilder();
        for (int k = 0; k < 10; k++) {
            b.append(told.ask(k)).append(' ');
        }
        for (int c = 0; c < told.ask(0); c++) {
            b.append("| ").append(within.ask(c)).append(' ');
            for (int k = 0; k < 5; k++) {
                b.append(ice.ask(c, k)).append(' ');
            }
        }
        for (int w = 0; w < told.ask(1); w++) {
            b.append("/ ");
            for (int k = 0; k < 4; k++) {
                b.append(walker.ask(w, k)).append(' ');
            }
            for (int k = 0; k < walker.ask(w, 2); k++) {
                b.append(routeAt.ask(w, k)).append(',');
            }
        }
        return b.toString();
    }
}
