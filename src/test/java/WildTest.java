import java.lang.reflect.Method;
import java.lang.reflect.Modifier;
import java.util.ArrayList;
import java.util.Arrays;
import java.util.Comparator;
import java.util.List;
import java.util.Random;

/**
 * Rules 7 and 13 of LANGUAGE.md, and section 5 of the document: whatever numbers and bytes come, no call throws, NONE
 * and false come with a STATUS, and two objects that are called alike answer alike.
 */
public final class WildTest {
    private static final int[] ENDS = {Integer.MIN_VALUE, Integer.MIN_VALUE + 1, -1000, -1, 0, 1, 2, 3, 9, 10, 16, 20,
        60, 99, 255, 300, 900, 999, 1000, 1023, 1024, 9999, 10000, 65535, 1 << 30, Integer.MAX_VALUE - 1,
        Integer.MAX_VALUE};
    private static final List<String> BARE = List.of("status", "top", "bottom", "feed", "fault");
    private static final List<String> BELOW_ZERO = List.of("read", "margin", "surest");

    private final Random random;
    private final Texts texts;
    private final GooseIce one;
    private final GooseIce other;

    private WildTest(long seed) {
        random = new Random(seed);
        texts = new Texts(random);
        boolean rich = random.nextBoolean();
        one = rich ? Scene.rich() : new GooseIce();
        other = rich ? Scene.rich() : new GooseIce();
    }

    public static void main(String[] args) throws Exception {
        List<Method> calls = new ArrayList<>();
        for (Method m : GooseIce.class.getDeclaredMethods()) {
            if (Modifier.isPublic(m.getModifiers())) {
                calls.add(m);
            }
        }
        calls.sort(Comparator.comparing(Method::getName));
        for (int seed = 0; seed < 400; seed++) {
            WildTest t = new WildTest(seed);
            for (int k = 0; k < 400; k++) {
                t.call(calls.get(t.random.nextInt(calls.size())));
            }
        }
        Check.end();
    }

    private void call(Method m) throws Exception {
        if (random.nextInt(60) == 0) {
            text();
        }
        Object[] numbers = new Object[m.getParameterCount()];
        for (int k = 0; k < numbers.length; k++) {
            Class<?> kind = m.getParameterTypes()[k];
            numbers[k] = kind == boolean.class ? random.nextBoolean() : kind == long.class ? random.nextLong()
                : (Object) number();
        }
        String shown = m.getName() + Arrays.toString(numbers);
        Object got;
        try {
            got = m.invoke(one, numbers);
        } catch (java.lang.reflect.InvocationTargetException e) {
            Check.same(shown, "threw " + e.getCause(), "no throw");
            return;
        }
        Check.same(shown, "" + got, "" + m.invoke(other, numbers));
        Check.due("status() behind " + shown, one.status(), other.status());
        if (!BARE.contains(m.getName())) {
            boolean refused = got instanceof Boolean b ? !b : ((Number) got).longValue() == GooseIce.NONE;
            boolean mayBe = BELOW_ZERO.contains(m.getName());
            Check.due("NONE and STATUS of " + shown, refused && mayBe || refused == (one.status() != 0), true);
        }
        Check.due("bottom() above 0 behind " + shown, one.bottom() > 0, true);
    }

    private int number() {
        int kind = random.nextInt(10);
        return kind == 0 ? random.nextInt() : kind < 3 ? ENDS[random.nextInt(ENDS.length)] : random.nextInt(12);
    }

    /** A text, whole or with some bytes that are any bytes, or any bytes alone. */
    private void text() {
        boolean isLake = random.nextBoolean();
        StringBuilder b = new StringBuilder(texts.join(isLake ? texts.lake() : texts.tales()));
        int spoilt = random.nextInt(3) == 0 ? b.length() : random.nextInt(2);
        for (int k = 0; k < spoilt && b.length() > 0; k++) {
            b.setCharAt(random.nextInt(b.length()), (char) random.nextInt(256));
        }
        b.setLength(Math.min(b.length(), isLake ? 900 : 300));
        Check.feed(one, b.toString());
        Check.feed(other, b.toString());
        int n = random.nextInt(8) == 0 ? random.nextInt(910) - 5 : b.length();
        int got = isLake ? one.lake(n) : one.tales(n);
        Check.due((isLake ? "lake of " : "tales of ") + b, got, isLake ? other.lake(n) : other.tales(n));
        Check.due("NONE and STATUS of " + b, got == GooseIce.NONE, one.status() != 0);
        Check.due("status() behind " + b, one.status(), other.status());
    }
}
