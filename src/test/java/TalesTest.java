/** Promises 56 to 58: TALES lived, what became of them, the mean of many seeds. */
public final class TalesTest {
    public static void main(String[] args) {
        refused();
        plainSteps();
        missed();
        tests();
        loops();
        limit();
        stops();
        draws();
        means();
        Check.end();
    }

    // CELLS: 0 s, 1 a (9), 2 t in a row; WALKERS: 0 v (5), 1 w (4) in s.
    private static GooseIce row() {
        return Check.on("shore s;ice a bears 9;shore t;way s a;way a t;walker v weighs 5 at s;walker w weighs 4 at s;");
    }

    private static GooseIce with(String tales) {
        GooseIce x = row();
        if (Check.tales(x, tales) == GooseIce.NONE) {
            Check.due("FAULT at " + x.fault(1) + " in " + tales, x.fault(0), 0);
        }
        return x;
    }

    private static void livedIs(String call, GooseIce x, int... want) {
        for (int k = 0; k < 5; k++) {
            Check.well("lived(" + k + ") behind " + call, x, x.lived(k), want[k]);
        }
    }

    private static void refused() {
        GooseIce x = row();
        Check.none("live(0) without TALES", x, x.live(0), 6);
        Check.none("live(-1): 1 ahead of 6", x, x.live(-1), 1);
        Check.none("live(10000)", x, x.live(10000), 1);
        Check.none("lived(0) ahead of any", x, x.lived(0), 6);
        Check.none("lived(5)", x, x.lived(5), 1);
        Check.none("lived(-1)", x, x.lived(-1), 1);
        Check.no("mean(0, 1) without TALES", x, x.mean(0, 1), 6);
        Check.no("mean(-1, 1)", x, x.mean(-1, 1), 1);
        Check.no("mean(0, 0)", x, x.mean(0, 0), 1);
        Check.no("mean(0, 21)", x, x.mean(0, 21), 1);
        Check.no("mean(9981, 20)", x, x.mean(9981, 20), 1);
        Check.no("mean of a huge seed", x, x.mean(Integer.MAX_VALUE, 20), 1);
        Check.tales(x, "any;");
        Check.due("mean(9980, 20)", x.mean(9980, 20), true);
        Check.well("live(9999)", x, x.live(9999), 1);
    }

    private static void plainSteps() {
        GooseIce x = with("send v to t;step 1;frost 2;thaw 1;step 20;");
        Check.well("live(0)", x, x.live(0), 5);
        livedIs("plain STEPS", x, 0, 21, 1, 0, 0);
        Check.well("told(5)", x, x.told(5), 21);
        Check.well("walker(0, 1)", x, x.walker(0, 1), 2);
        // 9 and 2 less 1, and BETTER 1 for v.
        Check.well("ice(1, 0)", x, x.ice(1, 0), 11);
        Check.well("live(0) once more: all is as it is then", x, x.live(0), 5);
        livedIs("the same TALES", x, 1, 21, 0, 0, 0);
        Check.well("told(5)", x, x.told(5), 42);
        GooseIce y = row();
        Check.well("tales of nothing", y, y.tales(0), 0);
        Check.well("live(0) of no STEPS", y, y.live(0), 0);
        livedIs("no STEPS", y, 0, 0, 0, 0, 0);
    }

    private static void missed() {
        GooseIce x = with("send v to s;send v to t;send v to t;");
        Check.well("live(0)", x, x.live(0), 3);
        livedIs("one who is there, then one with a ROUTE", x, 2, 0, 1, 0, 0);
        GooseIce y = with("step 1;send v to t;send w to t;step 1;send v to s;");
        y.weigh(1, 20);
        Check.well("live(0)", y, y.live(0), 5);
        livedIs("no WAY for 20", y, 2, 2, 1, 0, 0);
        y.melt(1);
        Check.tales(y, "send v to s;");
        Check.well("live(0)", y, y.live(0), 1);
        livedIs("one who is WET", y, 1, 0, 0, 0, 0);
        GooseIce z = with("step 20;step 19;");
        for (int k = 0; k < 499; k++) {
            z.step(20);
        }
        Check.well("live(0)", z, z.live(0), 2);
        livedIs("STEPS beyond 9,999, as a whole", z, 1, 19, 0, 0, 0);
        Check.well("told(5)", z, z.told(5), 9999);
        GooseIce q = Check.on("shore s;");
        Check.tales(q, "any;");
        Check.well("live(0)", q, q.live(0), 1);
        livedIs("any without WALKERS", q, 1, 0, 0, 0, 0);
        GooseIce p = new GooseIce();
        Check.tales(p, "any;step 3;");
        Check.well("live(0) of the first LAKE", p, p.live(0), 2);
        livedIs("any without CELLS", p, 1, 3, 0, 0, 0);
        GooseIce b = with("send v to a;send w to a;step 1;frost 9;send v to s;step 1;");
        b.frost(1);
        Check.well("live(0)", b, b.live(0), 6);
        // 10 - 4 is below 9: it breaks; then nobody can go.
        livedIs("ICE that breaks", b, 1, 2, 2, 1, 0);
        Check.well("told(8)", b, b.told(8), 3);
    }

    /** The TEST holds if the frost behind it came to be: one STEP more is done. */
    private static void test(String test, boolean holds) {
        GooseIce x = with("send v to a;step 1;when " + test + ";frost 1;end;");
        Check.well("live(0) with when " + test, x, x.live(0), holds ? 4 : 3);
        Check.well("ice(1, 0) with when " + test, x, x.ice(1, 0), holds ? 10 : 9);
    }

    private static void tests() {
        test("bears a < 7", false);
        test("bears a < 8", true);
        test("bears a = 7", true);
        test("bears a = 9", false);
        test("bears a > 7", false);
        test("bears a > 6", true);
        test("bears s = 999", true);
        test("bears s > 998", true);
        test("bears s < 999", false);
        test("at v in a", true);
        test("at v in s", false);
        test("at w in s", true);
        test("wet v", false);
        GooseIce x = with("when wet v;thaw 1;end;when wet w;thaw 2;end;");
        x.sendTo(0, 1);
        x.step(1);
        x.melt(1);
        x.frost(20);
        Check.well("live(0) with one WET", x, x.live(0), 3);
        Check.well("ice(1, 0)", x, x.ice(1, 0), 19);
    }

    private static void loops() {
        GooseIce x = with("loop 3;step 2;loop 2;frost 1;end;end;step 1;");
        // loop, 3 times step, loop and 2 times frost, step.
        Check.well("live(0)", x, x.live(0), 1 + 3 * 4 + 1);
        livedIs("loops", x, 0, 7, 0, 0, 0);
        Check.well("ice(1, 0)", x, x.ice(1, 0), 15);
        GooseIce y = with("loop 99;end;when wet v;end;loop 2;loop 3;end;end;");
        Check.well("live(0) with empty loops", y, y.live(0), 5);
        livedIs("empty loops", y, 0, 0, 0, 0, 0);
        GooseIce z = with("loop 4;when bears a < 11;frost 1;end;end;thaw 1;");
        // 9, 10, then 11 twice.
        Check.well("live(0) with when in a loop", z, z.live(0), 1 + 4 + 2 + 1);
        Check.well("ice(1, 0)", z, z.ice(1, 0), 10);
        GooseIce w = with("loop 2;loop 2;loop 2;frost 1;end;end;end;");
        Check.well("live(0) with three loops that end at once", w, w.live(0), 1 + 2 + 4 + 8);
        Check.well("ice(1, 0)", w, w.ice(1, 0), 17);
    }

    private static void limit() {
        GooseIce x = with("loop 99;step 1;thaw 1;frost 1;end;step 1;");
        Check.well("live(0): 1 + 297 + 1", x, x.live(0), 299);
        livedIs("299 STEPS", x, 0, 100, 0, 0, 0);
        GooseIce y = with("any;loop 99;step 1;thaw 1;frost 1;end;step 1;");
        Check.well("live(0): just 300", y, y.live(0), 300);
        Check.well("lived(4): none is left", y, y.lived(4), 0);
        GooseIce z = with("any;any;loop 99;step 1;thaw 1;frost 1;end;step 1;");
        Check.well("live(0): one too many", z, z.live(0), 300);
        Check.well("lived(4): one is left", z, z.lived(4), 1);
        Check.well("lived(1)", z, z.lived(1), 99);
        GooseIce w = with("any;any;loop 99;step 1;thaw 1;frost 1;end;");
        Check.well("live(0): an end is no STEP", w, w.live(0), 300);
        Check.well("lived(4): none is left", w, w.lived(4), 0);
        GooseIce v = with("loop 99;loop 99;step 1;end;end;");
        Check.well("live(0) of very many", v, v.live(0), 300);
        livedIs("very many", v, 0, 296, 0, 0, 1);
    }

    private static void stops() {
        GooseIce x = with("loop 9;step 1;stop;step 1;end;step 1;");
        Check.well("live(0) to a stop", x, x.live(0), 3);
        livedIs("a stop", x, 0, 1, 0, 0, 0);
        GooseIce y = with("loop 9;step 1;stop;end;");
        Check.well("live(0) to a stop at the end of a loop", y, y.live(0), 3);
        Check.well("told(5)", y, y.told(5), 1);
    }

    private static int draw(int[] s, int n) {
        s[0] = (s[0] * 2999 + 11177) % 65536;
        return s[0] / 8 % n;
    }

    private static void draws() {
        // Two WALKERS, three SHORES with all WAYS: each draw can be seen.
        for (int seed : new int[] {0, 1, 7, 1234, 9999}) {
            GooseIce x = Check.on("shore a;shore b;shore c;way a b;way b c;way a c;"
                + "walker v weighs 5 at a;walker w weighs 4 at a;");
            Check.tales(x, "loop 20;any;step 1;end;");
            Check.well("live(" + seed + ")", x, x.live(seed), 41);
            int[] s = {seed};
            int[] at = {0, 0};
            int missed = 0;
            for (int k = 0; k < 20; k++) {
                int who = draw(s, 2);
                int to = draw(s, 3);
                missed += at[who] == to ? 1 : 0;
                at[who] = to;
            }
            Check.well("walker(0, 1) by seed " + seed, x, x.walker(0, 1), at[0]);
            Check.well("walker(1, 1) by seed " + seed, x, x.walker(1, 1), at[1]);
            livedIs("live(" + seed + ")", x, missed, 20, 20 - missed, 0, 0);
        }
    }

    private static void means() {
        // One of two is SENT to s (where he is: MISSED), a or t; the ICE is thawed behind the SEND, so that he
        // breaks in with his first STEP.
        GooseIce x = with("any;thaw 20;step 1;");
        int wet = 0;
        for (int seed = 100; seed < 120; seed++) {
            int[] s = {seed};
            draw(s, 2);
            wet += draw(s, 3) == 0 ? 0 : 1;
        }
        int shared = gcd(wet, 20);
        Check.fraction("mean(100, 20)", x, x.mean(100, 20), wet / shared, 20 / shared);
        Check.well("told(5) stays", x, x.told(5), 0);
        Check.well("told(8) stays", x, x.told(8), 0);
        Check.well("told(9) stays", x, x.told(9), 0);
        Check.well("ice(1, 0) stays", x, x.ice(1, 0), 9);
        Check.none("lived(0): mean() is no live()", x, x.lived(0), 6);
        GooseIce y = with("send v to a;step 1;thaw 20;step 1;");
        Check.fraction("mean(5, 7) without draws", y, y.mean(5, 7), 1, 1);
        y.melt(1);
        Check.fraction("mean(5, 7) of nobody", y, y.mean(5, 7), 0, 1);
        GooseIce z = with("frost 1;");
        z.live(3);
        z.mean(0, 5);
        Check.well("lived(1) is of live()", z, z.lived(1), 0);
        Check.well("live(0) behind mean()", z, z.live(0), 1);
        Check.well("ice(1, 0)", z, z.ice(1, 0), 11);
    }

    private static int gcd(int a, int b) {
        return b == 0 ? a : gcd(b, a % b);
    }
}
