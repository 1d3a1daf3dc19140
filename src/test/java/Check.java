/** What the tests share: answers set against what is due, and texts fed to an object. */
final class Check {
    private static int wrong = 0;
    private static int asked = 0;

    private Check() {
    }

    static void due(String call, long got, long want) {
        asked++;
        if (got != want) {
            wrong++;
            System.out.println(call + " answered " + got + ", due is " + want);
        }
    }

    static void due(String call, boolean got, boolean want) {
        due(call, got ? 1 : 0, want ? 1 : 0);
    }

    /** A call that is refused: NONE, and why. */
    static void none(String call, GooseIce x, long got, int status) {
        due(call, got, GooseIce.NONE);
        due("status() behind " + call, x.status(), status);
    }

    /** A call that is refused: false, and why. */
    static void no(String call, GooseIce x, boolean got, int status) {
        due(call, got, false);
        due("status() behind " + call, x.status(), status);
    }

    /** A call that is answered: what, and STATUS 0. */
    static void well(String call, GooseIce x, long got, long want) {
        due(call, got, want);
        due("status() behind " + call, x.status(), 0);
    }

    /** A call that is carried out: true, and STATUS 0. */
    static void yes(String call, GooseIce x, boolean got) {
        due(call, got, true);
        due("status() behind " + call, x.status(), 0);
    }

    static void same(String call, String got, String want) {
        asked++;
        if (!got.equals(want)) {
            wrong++;
            System.out.println(call + " left\n  " + got + "\ndue is\n  " + want);
        }
    }

    static void fraction(String call, GooseIce x, boolean got, long top, long bottom) {
        due(call, got, true);
        due("status() behind " + call, x.status(), 0);
        due("top() behind " + call, x.top(), top);
        due("bottom() behind " + call, x.bottom(), bottom);
    }

    /** Feeds a text, filled up with bytes 0: how many bytes are its own. */
    static int feed(GooseIce x, String text) {
        for (int k = 0; k < text.length(); k += 20) {
            x.feed(four(text, k), four(text, k + 4), four(text, k + 8), four(text, k + 12), four(text, k + 16));
        }
        return text.length();
    }

    private static int four(String text, int from) {
        int v = 0;
        for (int k = from; k < from + 4; k++) {
            v = v << 8 | (k < text.length() ? text.charAt(k) & 255 : 0);
        }
        return v;
    }

    static int lake(GooseIce x, String text) {
        return x.lake(feed(x, text));
    }

    static int tales(GooseIce x, String text) {
        return x.tales(feed(x, text));
    }

    static void lakeFault(String text, int kind, int place) {
        GooseIce x = new GooseIce();
        none("lake of '" + text + "'", x, lake(x, text), 9);
        faultIs(x, text, kind, place);
    }

    static void talesFault(String lake, String text, int kind, int place) {
        GooseIce x = on(lake);
        none("tales of '" + text + "'", x, tales(x, text), 9);
        faultIs(x, text, kind, place);
    }

    private static void faultIs(GooseIce x, String text, int kind, int place) {
        due("fault(0) of '" + text + "'", x.fault(0), kind);
        due("fault(1) of '" + text + "'", x.fault(1), place);
    }

    static GooseIce on(String text) {
        GooseIce x = new GooseIce();
        if (lake(x, text) == GooseIce.NONE) {
            wrong++;
            System.out.println("FAULT " + x.fault(0) + " at " + x.fault(1) + " in: " + text);
        }
        return x;
    }

    static void tray(GooseIce x, int tray, int... numbers) {
        x.tray(tray, 2, numbers.length);
        for (int k = 0; k < numbers.length; k++) {
            x.write(tray, k, numbers[k]);
        }
    }

    static void end() {
        System.out.println(wrong == 0 ? asked + " answers are as due" : wrong + " answers are not as due");
        if (wrong != 0) {
            System.exit(1);
        }
    }
}
