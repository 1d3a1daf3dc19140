/** Promises 53 to 60 at the bounds that the document names: ODDS, BEST DAY, means, TALES lived, MARKS. */
public final class TaleEdgesTest {
    public static void main(String[] args) {
        oddsBounds();
        oddsAtZero();
        oddsAtMost();
        oddsOfOne();
        bestDayBounds();
        meanInBounds();
        fractionsAreShort();
        liveBounds();
        liveToTheLimit();
        leftToBeDone();
        emptyBodies();
        stepsBeyond();
        anyOfOne();
        missedSends();
        seedsDrawAlike();
        livedIsOfTheLatest();
        meanBounds();
        meanOfDraws();
        marksToThree();
        undoOfAll();
        marksAndLakes();
        Check.end();
    }

    private static GooseIce bearing(int much) {
        GooseIce x = Check.on("ice a bears " + Math.min(200, much) + ";shore s;way s a;walker v weighs 1 at s;");
        for (int left = much - 200; left > 0; left -= 20) {
            x.frost(Math.min(20, left));
        }
        Check.well("ice(0, 0)", x, x.ice(0, 0), much);
        return x;
    }

    // ---- promises 53 to 55

    private static void oddsBounds() {
        GooseIce x = bearing(10);
        Check.fraction("odds of 10 today", x, x.odds(0, 10, 0, 8, 8), 1, 1);
        Check.fraction("odds of 11 today", x, x.odds(0, 11, 0, 8, 8), 0, 1);
        Check.fraction("odds of 0", x, x.odds(0, 0, 10, 0, 16), 1, 1);
        Check.fraction("odds of 999", x, x.odds(0, 999, 10, 16, 0), 0, 1);
        Check.fraction("odds of 20 in 10 by 16", x, x.odds(0, 20, 10, 16, 0), 1, 1);
        Check.fraction("odds of 21 in 10 by 16", x, x.odds(0, 21, 10, 16, 0), 0, 1);
        Check.fraction("odds of 20 in 9 by 16", x, x.odds(0, 20, 9, 16, 0), 0, 1);
        Check.fraction("odds of 1 in 10 by 0, 16", x, x.odds(0, 1, 10, 0, 16), 0, 1);
        Check.fraction("odds of 1 in 9 by 0, 16", x, x.odds(0, 1, 9, 0, 16), 1, 1);
        Check.fraction("odds of 10 in 10 by nothing", x, x.odds(0, 10, 10, 0, 0), 1, 1);
        Check.fraction("odds of 11 in 10 by nothing", x, x.odds(0, 11, 10, 0, 0), 0, 1);
        Check.fraction("odds of 20 in 10 by 15", x, x.odds(0, 20, 10, 15, 1), 576650390625L, 1L << 40);
        Check.fraction("odds of 0 or 1 more by 1", x, x.odds(0, 11, 1, 1, 15), 1, 16);
        Check.fraction("odds of no less by 15 less", x, x.odds(0, 10, 1, 1, 15), 1, 16);
        Check.no("odds by 17", x, x.odds(0, 10, 1, 1, 16), 1);
        Check.due("top() stays", x.top(), 1);
        Check.due("bottom() stays", x.bottom(), 16);
    }

    private static void oddsAtZero() {
        GooseIce x = bearing(0);
        // One less is 0 still: then 8 sixteenths of 1 more.
        Check.fraction("odds of 1 in 1", x, x.odds(0, 1, 1, 8, 8), 1, 2);
        Check.fraction("odds of 2 in 2", x, x.odds(0, 2, 2, 8, 8), 1, 4);
        Check.fraction("odds of 0 in 10", x, x.odds(0, 0, 10, 0, 16), 1, 1);
        Check.fraction("meanIn 10 by 16 less", x, x.meanIn(0, 10, 0, 16), 0, 1);
        // 0 or 1, then 0, 0, 0 (from 1) or 2: a mean of 3 quarters.
        Check.fraction("meanIn 2 by 8, 8", x, x.meanIn(0, 2, 8, 8), 3, 4);
        GooseIce y = bearing(1);
        // 10 DAYS of 15 more, 1 less.
        Check.fraction("odds of 11 in 10", y, y.odds(0, 11, 10, 15, 1), 576650390625L, 1L << 40);
        Check.fraction("meanIn 1 by 0, 16", y, y.meanIn(0, 1, 0, 16), 0, 1);
        Check.fraction("meanIn 2 by 0, 16", y, y.meanIn(0, 2, 0, 16), 0, 1);
    }

    private static void oddsAtMost() {
        GooseIce x = bearing(999);
        Check.fraction("odds of 999 in 10 by 16", x, x.odds(0, 999, 10, 16, 0), 1, 1);
        Check.fraction("odds of 999 in 1 by 8, 8", x, x.odds(0, 999, 1, 8, 8), 1, 2);
        Check.fraction("odds of 989 in 10 by 0, 16", x, x.odds(0, 989, 10, 0, 16), 1, 1);
        Check.fraction("odds of 990 in 10 by 0, 16", x, x.odds(0, 990, 10, 0, 16), 0, 1);
        Check.fraction("meanIn 10 by 16", x, x.meanIn(0, 10, 16, 0), 999, 1);
        Check.fraction("meanIn 10 by 0, 16", x, x.meanIn(0, 10, 0, 16), 989, 1);
        Check.fraction("meanIn 2 by 8, 8", x, x.meanIn(0, 2, 8, 8), 4 * 999 - 3, 4);
        GooseIce y = bearing(998);
        Check.fraction("odds of 999 in 10 by 16", y, y.odds(0, 999, 10, 16, 0), 1, 1);
        Check.fraction("meanIn 1 by 16", y, y.meanIn(0, 1, 16, 0), 999, 1);
        Check.fraction("meanIn 2 by 16", y, y.meanIn(0, 2, 16, 0), 999, 1);
    }

    private static void oddsOfOne() {
        // All ends of ten DAYS by 8 and 8: 1024 ways, of which 1, 11, 56 .. are 10, 8, 6 .. more at least.
        GooseIce x = bearing(50);
        long[] ways = {1, 11, 56, 176, 386, 638, 848, 968, 1013, 1023, 1024};
        for (int k = 0; k <= 10; k++) {
            long shared = gcd(ways[k], 1024);
            Check.fraction("odds of " + (60 - 2 * k) + " in 10", x, x.odds(0, 60 - 2 * k, 10, 8, 8), ways[k] / shared,
                1024 / shared);
        }
        Check.fraction("meanIn 10 by 8, 8", x, x.meanIn(0, 10, 8, 8), 50, 1);
        Check.fraction("meanIn 10 by 16", x, x.meanIn(0, 10, 16, 0), 60, 1);
        Check.fraction("meanIn 10 by 0, 16", x, x.meanIn(0, 10, 0, 16), 40, 1);
        Check.fraction("odds of 39 in 10", x, x.odds(0, 39, 10, 8, 8), 1, 1);
        Check.fraction("odds of 0 in 10", x, x.odds(0, 0, 10, 8, 8), 1, 1);
        Check.fraction("odds of 61 in 10", x, x.odds(0, 61, 10, 8, 8), 0, 1);
        Check.fraction("meanIn 0", x, x.meanIn(0, 0, 16, 0), 50, 1);
        Check.fraction("meanIn 1 by 1, 0", x, x.meanIn(0, 1, 1, 0), 801, 16);
    }

    private static void bestDayBounds() {
        GooseIce x = bearing(10);
        Check.well("bestDay of the next 0", x, x.bestDay(0, 11, 0, 16, 0), 0);
        Check.well("bestDay of 10: today, too", x, x.bestDay(0, 10, 10, 16, 0), 0);
        Check.well("bestDay of 0: all are alike", x, x.bestDay(0, 0, 10, 8, 8), 0);
        Check.well("bestDay of 999: none is", x, x.bestDay(0, 999, 10, 8, 8), 0);
        Check.well("bestDay of 20: the tenth", x, x.bestDay(0, 20, 10, 16, 0), 10);
        Check.well("bestDay of 20 of the next 9", x, x.bestDay(0, 20, 9, 16, 0), 0);
        Check.well("bestDay of 11 by 16: the first of several", x, x.bestDay(0, 11, 10, 16, 0), 1);
        Check.well("bestDay of 11 by 8, 8", x, x.bestDay(0, 11, 10, 8, 8), 1);
        Check.well("bestDay of 12 by 8, 8: 1/4, 1/8, 5/16, ..: the tenth", x, x.bestDay(0, 12, 10, 8, 8), 10);
        Check.well("bestDay of 12 by 8, 8 of the next 3", x, x.bestDay(0, 12, 3, 8, 8), 2);
        Check.well("bestDay of 12 by 0, 16", x, x.bestDay(0, 12, 10, 0, 16), 0);
        Check.well("bestDay of 11 by 1, 0", x, x.bestDay(0, 11, 10, 1, 0), 10);
    }

    private static void meanInBounds() {
        GooseIce x = bearing(5);
        Check.fraction("meanIn 5 by 0, 16", x, x.meanIn(0, 5, 0, 16), 0, 1);
        Check.fraction("meanIn 6 by 0, 16: 0 is a bound", x, x.meanIn(0, 6, 0, 16), 0, 1);
        Check.fraction("meanIn 4 by 0, 16", x, x.meanIn(0, 4, 0, 16), 1, 1);
        x.sendTo(0, 0);
        x.step(1);
        Check.fraction("meanIn 0: what it BEARS, not STRENGTH", x, x.meanIn(0, 0, 0, 0), 5, 1);
        x.melt(0);
        Check.fraction("meanIn 0 of BROKEN ICE", x, x.meanIn(0, 0, 0, 0), 0, 1);
    }

    private static void fractionsAreShort() {
        GooseIce x = bearing(10);
        int[][] rows = {{16, 1, 1}, {8, 1, 2}, {4, 1, 4}, {2, 1, 8}, {1, 1, 16}, {12, 3, 4}, {6, 3, 8}, {3, 3, 16},
            {0, 0, 1}};
        for (int[] row : rows) {
            Check.fraction("odds of 1 more by " + row[0], x, x.odds(0, 11, 1, row[0], 0), row[1], row[2]);
        }
    }

    private static long gcd(long a, long b) {
        return b == 0 ? a : gcd(b, a % b);
    }

    // ---- promises 56 to 58

    private static final String ROW = "shore s;ice a bears 9;shore t;way s a;way a t;walker v weighs 5 at s;"
        + "walker w weighs 4 at s;";

    private static GooseIce with(String lake, String tales) {
        GooseIce x = Check.on(lake);
        Check.tales(x, tales);
        Check.due("fault(0) of " + tales, x.fault(0), 0);
        return x;
    }

    private static void livedIs(String call, GooseIce x, int... want) {
        for (int k = 0; k < 5; k++) {
            Check.well("lived(" + k + ") behind " + call, x, x.lived(k), want[k]);
        }
    }

    private static void liveBounds() {
        GooseIce x = with(ROW, "frost 1;");
        Check.well("live(0)", x, x.live(0), 1);
        Check.well("live(9999)", x, x.live(9999), 1);
        Check.none("live(10000)", x, x.live(10000), 1);
        Check.none("live(-1)", x, x.live(-1), 1);
        Check.well("ice(1, 0): twice", x, x.ice(1, 0), 11);
        GooseIce y = Check.on(ROW);
        y.tales(0);
        Check.well("live(0) of TALES of no STEPS", y, y.live(0), 0);
        Check.fraction("mean(0, 20) of TALES of no STEPS", y, y.mean(0, 20), 0, 1);
    }

    private static void liveToTheLimit() {
        // loop and 99 times three are 298.
        String most = "loop 99;frost 1;thaw 1;frost 1;end;";
        int[] more = {0, 1, 2, 3, 4};
        for (int n : more) {
            GooseIce x = with(ROW, most + "thaw 1;".repeat(n));
            Check.well("live(0) of 298 and " + n, x, x.live(0), Math.min(300, 298 + n));
            Check.well("lived(4) of 298 and " + n, x, x.lived(4), n > 2 ? 1 : 0);
            Check.well("ice(1, 0) of 298 and " + n, x, x.ice(1, 0), 9 + 99 - Math.min(2, n));
        }
        GooseIce y = with(ROW, "loop 99;loop 99;loop 99;frost 1;end;end;end;");
        Check.well("live(0) of 970,299", y, y.live(0), 300);
        // loop, loop, then loop and 99 frosts three times, but for what is above 300.
        livedIs("970,299", y, 0, 0, 0, 0, 1);
        Check.well("ice(1, 0)", y, y.ice(1, 0), 9 + 295);
        Check.well("live(0) once more begins anew", y, y.live(0), 300);
        Check.well("ice(1, 0)", y, y.ice(1, 0), 9 + 295 + 295);
    }

    private static void leftToBeDone() {
        String most = "loop 99;frost 1;thaw 1;frost 1;end;";
        // A when that does not hold, an empty loop, a stop: each is a STEP that was left.
        GooseIce x = with(ROW, most + "thaw 1;thaw 1;when wet v;end;");
        x.live(0);
        Check.well("lived(4): a when is left", x, x.lived(4), 1);
        GooseIce y = with(ROW, most + "thaw 1;thaw 1;loop 1;end;");
        y.live(0);
        Check.well("lived(4): a loop is left", y, y.lived(4), 1);
        GooseIce z = with(ROW, most + "thaw 1;thaw 1;stop;");
        z.live(0);
        Check.well("lived(4): a stop is left", z, z.lived(4), 1);
        GooseIce w = with(ROW, most + "thaw 1;stop;thaw 1;");
        Check.well("live(0): the 300th is a stop", w, w.live(0), 300);
        Check.well("lived(4): nothing is left to be done", w, w.lived(4), 0);
        GooseIce q = with(ROW, most + "thaw 1;when wet v;thaw 1;end;");
        Check.well("live(0): the 300th is a when that does not hold", q, q.live(0), 300);
        Check.well("lived(4): its STEPS are none to be done", q, q.lived(4), 0);
        GooseIce p = with(ROW, most + "thaw 1;when at v in s;thaw 1;end;");
        Check.well("live(0): the 300th is a when that holds", p, p.live(0), 300);
        Check.well("lived(4): its STEP is left", p, p.lived(4), 1);
        GooseIce o = with(ROW, most + "thaw 1;loop 1;thaw 1;end;");
        o.live(0);
        Check.well("lived(4): a loop's STEP is left", o, o.lived(4), 1);
        GooseIce n = with(ROW, "frost 1;frost 1;" + most);
        Check.well("live(0): the 300th is the last of a loop", n, n.live(0), 300);
        Check.well("lived(4): ends are no STEPS", n, n.lived(4), 0);
        GooseIce m = with(ROW, "frost 1;frost 1;frost 1;" + most);
        Check.well("live(0): one of a loop too many", m, m.live(0), 300);
        Check.well("lived(4)", m, m.lived(4), 1);
    }

    private static void emptyBodies() {
        GooseIce x = with(ROW, "loop 99;loop 99;loop 99;end;end;end;");
        Check.well("live(0): three loops, the third 9,801 times, is cut at 300", x, x.live(0), 300);
        Check.well("lived(4)", x, x.lived(4), 1);
        GooseIce y = with(ROW, "loop 99;end;");
        Check.well("live(0): an empty loop is one STEP", y, y.live(0), 1);
        Check.well("lived(4)", y, y.lived(4), 0);
        GooseIce z = with(ROW, "loop 2;when wet v;frost 1;end;end;");
        Check.well("live(0): a when is come to each time", z, z.live(0), 3);
        GooseIce w = with(ROW, "when at v in s;when at w in s;when at v in s;frost 1;end;end;end;thaw 2;");
        Check.well("live(0): three whens that hold", w, w.live(0), 5);
        Check.well("ice(1, 0)", w, w.ice(1, 0), 8);
        GooseIce q = with(ROW, "when wet v;frost 20;loop 9;frost 20;end;end;thaw 2;");
        Check.well("live(0): all within is left out", q, q.live(0), 2);
        Check.well("ice(1, 0)", q, q.ice(1, 0), 7);
        GooseIce p = with(ROW, "loop 3;frost 1;when at v in s;stop;end;end;thaw 1;");
        Check.well("live(0): a stop within two", p, p.live(0), 4);
        livedIs("a stop within two", p, 0, 0, 0, 0, 0);
        Check.well("live(0) begins anew", p, p.live(0), 4);
        Check.well("ice(1, 0)", p, p.ice(1, 0), 11);
    }

    private static void stepsBeyond() {
        GooseIce x = with(ROW, "loop 99;step 20;step 20;end;");
        for (int k = 0; k < 3; k++) {
            Check.well("live(0)", x, x.live(0), 199);
        }
        // 7,920 and 103 times 20 are 9,980: all others are MISSED as a whole.
        livedIs("STEPS to 9,980", x, 198 - 103, 103 * 20, 0, 0, 0);
        Check.well("told(5)", x, x.told(5), 9980);
        Check.tales(x, "step 20;step 18;step 2;step 1;step 1;");
        Check.well("live(0)", x, x.live(0), 5);
        livedIs("STEPS to 9,999", x, 3, 19, 0, 0, 0);
        Check.well("told(5)", x, x.told(5), 9999);
        Check.well("live(0): all are MISSED", x, x.live(0), 5);
        livedIs("STEPS beyond 9,999", x, 5, 0, 0, 0, 0);
        Check.well("told(5)", x, x.told(5), 9999);
    }

    private static void anyOfOne() {
        GooseIce x = with("shore s;walker v weighs 1 at s;", "any;any;");
        Check.well("live(0) with one of each", x, x.live(0), 2);
        livedIs("one of each: he is there", x, 2, 0, 0, 0, 0);
        GooseIce y = with("shore s;shore t;way s t;", "any;step 1;");
        Check.well("live(0) without WALKERS", y, y.live(0), 2);
        livedIs("without WALKERS", y, 1, 1, 0, 0, 0);
        GooseIce z = new GooseIce();
        Check.tales(z, "any;any;any;");
        Check.well("live(0) without CELLS", z, z.live(0), 3);
        livedIs("without CELLS", z, 3, 0, 0, 0, 0);
        // One WALKER, two SHORES: the second draw says where he goes; the first seed of each kind.
        boolean[] seen = new boolean[2];
        for (int seed = 0; seed < 40; seed++) {
            GooseIce w = with("shore s;shore t;way s t;walker v weighs 1 at s;", "any;step 1;");
            w.live(seed);
            int[] s = {seed};
            draw(s, 1);
            int to = draw(s, 2);
            seen[to] = true;
            Check.well("walker(0, 1) by seed " + seed, w, w.walker(0, 1), to);
            livedIs("seed " + seed, w, to == 0 ? 1 : 0, 1, to, 0, 0);
        }
        Check.due("both were drawn", seen[0] && seen[1], true);
    }

    private static int draw(int[] s, int n) {
        s[0] = (s[0] * 2999 + 11177) % 65536;
        return s[0] / 8 % n;
    }

    private static void missedSends() {
        GooseIce x = with(ROW, "send v to s;");
        x.live(0);
        livedIs("one who is there", x, 1, 0, 0, 0, 0);
        GooseIce y = with(ROW, "send v to t;send v to s;send v to a;");
        y.live(0);
        livedIs("one with a ROUTE", y, 2, 0, 1, 0, 0);
        GooseIce z = with(ROW, "send v to t;");
        z.thaw(3);
        z.live(0);
        livedIs("no WAY: 6 less 2 bears not 5", z, 1, 0, 0, 0, 0);
        GooseIce w = with(ROW, "send v to a;step 1;thaw 9;step 1;send v to s;frost 20;send v to s;send w to t;step 2;");
        Check.well("live(0)", w, w.live(0), 9);
        livedIs("one who is WET", w, 2, 4, 2, 1, 0);
        Check.well("told(8)", w, w.told(8), 1);
        // The same CELL breaks twice, with a FROST in between; two break in one STEP.
        GooseIce q = with("shore s;ice a bears 3;ice b bears 3;way s a;way s b;walker v weighs 1 at s;"
            + "walker w weighs 1 at s;"
            + "walker u weighs 1 at s;", "send v to a;send w to b;step 1;thaw 20;step 1;frost 3;send u to a;thaw 3;"
            + "step 5;");
        Check.well("live(0)", q, q.live(0), 9);
        livedIs("CELLS that BROKE", q, 0, 7, 3, 3, 0);
        Check.well("told(7)", q, q.told(7), 2);
        Check.tales(q, "step 1;");
        q.live(0);
        livedIs("TALES in which nothing BROKE", q, 0, 1, 0, 0, 0);
    }

    private static void seedsDrawAlike() {
        // The draws of 9,999, by hand: 9999 * 2999 + 11177 = 29998178, its rest by 65536 is 48226, by 8 6028.
        GooseIce x = with("shore a;shore b;shore c;shore d;shore e;shore f;shore g;way a b;way a c;way a d;way a e;"
            + "way a f;"
            + "way a g;walker p weighs 1 at a;walker q weighs 1 at a;walker r weighs 1 at a;", "any;step 1;");
        int[] s = {9999};
        int who = draw(s, 3);
        Check.due("s", s[0], 48226 % 65536);
        Check.due("the first draw by 3", who, 6028 % 3);
        int to = draw(s, 7);
        Check.well("live(9999)", x, x.live(9999), 2);
        Check.well("walker(" + who + ", 1)", x, x.walker(who, 1), to);
        // The same seed, the same draws, all as it is then.
        GooseIce y = with(ROW, "loop 20;any;step 1;end;");
        GooseIce z = with(ROW, "loop 20;any;step 1;end;");
        y.live(77);
        z.live(77);
        Check.same("live(77) on two objects", Scene.look(y), Scene.look(z));
    }

    private static void livedIsOfTheLatest() {
        GooseIce x = with(ROW, "send v to t;step 3;");
        Check.none("lived(0): there was none", x, x.lived(0), 6);
        x.live(0);
        livedIs("the first", x, 0, 3, 1, 0, 0);
        Check.none("live(10000)", x, x.live(10000), 1);
        livedIs("a refused one", x, 0, 3, 1, 0, 0);
        x.mean(0, 3);
        livedIs("mean()", x, 0, 3, 1, 0, 0);
        Check.lake(x, "shore z;");
        Check.none("live(0): no TALES", x, x.live(0), 6);
        livedIs("a new LAKE", x, 0, 3, 1, 0, 0);
        Check.tales(x, "step 1;");
        x.live(0);
        livedIs("the second", x, 0, 1, 0, 0, 0);
    }

    private static void meanBounds() {
        GooseIce x = with(ROW, "send v to a;step 1;thaw 20;step 1;");
        Check.fraction("mean(0, 1)", x, x.mean(0, 1), 1, 1);
        Check.fraction("mean(9999, 1)", x, x.mean(9999, 1), 1, 1);
        Check.fraction("mean(9980, 20)", x, x.mean(9980, 20), 1, 1);
        Check.no("mean(9981, 20): the last above 9,999", x, x.mean(9981, 20), 1);
        Check.no("mean(9999, 2): the last above 9,999", x, x.mean(9999, 2), 1);
        Check.no("mean(10000, 1)", x, x.mean(10000, 1), 1);
        Check.no("mean(0, 21)", x, x.mean(0, 21), 1);
        Check.no("mean(MAX, MAX)", x, x.mean(Integer.MAX_VALUE, Integer.MAX_VALUE), 1);
        Check.due("top() stays", x.top(), 1);
        Check.well("told(5): all stays as it is", x, x.told(5), 0);
        Check.well("told(7): all stays as it is", x, x.told(7), 0);
        // Who is WET ahead of it counts, too.
        x.live(0);
        Check.well("told(8)", x, x.told(8), 1);
        Check.fraction("mean(0, 2): v is WET already", x, x.mean(0, 2), 1, 1);
    }

    private static void meanOfDraws() {
        // Each seed by itself: live() on a twin tells how many are WET behind it.
        String tales = "loop 3;any;thaw 2;step 1;frost 3;end;any;thaw 20;step 1;";
        String untouched = lakeOf(with(ROW, tales));
        int[] wetBy = new int[60];
        for (int seed = 0; seed < 60; seed++) {
            GooseIce one = with(ROW, tales);
            one.live(seed);
            wetBy[seed] = Integer.bitCount(one.told(8));
        }
        for (int first = 0; first < 40; first += 3) {
            for (int many = 1; many <= 20; many++) {
                int wet = 0;
                for (int seed = first; seed < first + many; seed++) {
                    wet += wetBy[seed];
                }
                GooseIce x = with(ROW, tales);
                long shared = gcd(wet, many);
                Check.fraction("mean(" + first + ", " + many + ")", x, x.mean(first, many), wet / shared,
                    many / shared);
                Check.same("mean() changes nothing", lakeOf(x), untouched);
            }
        }
    }

    private static String lakeOf(GooseIce x) {
        String all = Scene.look(x);
        return all.substring(all.indexOf(" told"));
    }

    // ---- promises 59, 60

    private static void marksToThree() {
        GooseIce x = Check.on(ROW);
        for (int k = 1; k <= 3; k++) {
            Check.well("mark()", x, x.mark(), k);
        }
        Check.none("mark(): one too many", x, x.mark(), 4);
        Check.none("mark(): still", x, x.mark(), 4);
        Check.well("undo()", x, x.undo(), 2);
        Check.well("mark(): there is room again", x, x.mark(), 3);
        for (int k = 2; k >= 0; k--) {
            Check.well("undo()", x, x.undo(), k);
        }
        Check.none("undo(): none", x, x.undo(), 6);
        Check.well("mark()", x, x.mark(), 1);
    }

    private static void undoOfAll() {
        String untouched = lakeOf(Scene.rich());
        GooseIce x = Scene.rich();
        x.undo();
        x.mark();
        x.frost(20);
        x.rescue(2);
        x.halt(1);
        x.weigh(0, 77);
        x.hew(0, 3, true);
        x.hew(0, 1, false);
        x.melt(4);
        x.sendTo(0, 3);
        x.step(7);
        Check.well("undo()", x, x.undo(), 2);
        x.mark();
        Check.same("undo()", lakeOf(x), untouched);
    }

    private static void marksAndLakes() {
        GooseIce x = with(ROW, "frost 1;");
        x.mark();
        Check.lake(x, "shore z;worse 20;hour 20;better 20;");
        Check.well("mark(): MARKS stay with a new LAKE", x, x.mark(), 2);
        Check.well("undo()", x, x.undo(), 1);
        Check.well("told(0): the new LAKE", x, x.told(0), 1);
        Check.well("undo()", x, x.undo(), 0);
        Check.well("told(0): the old LAKE", x, x.told(0), 3);
        Check.well("told(2)", x, x.told(2), 2);
        Check.well("told(3)", x, x.told(3), 4);
        Check.well("told(4)", x, x.told(4), 1);
        Check.well("live(0): its TALES", x, x.live(0), 1);
        // A MARK without TALES takes them back, too; a FRACTION and a FAULT are no part of it.
        GooseIce y = Check.on(ROW);
        y.mark();
        Check.tales(y, "frost 1;");
        y.odds(1, 10, 1, 4, 0);
        Check.lake(y, "?");
        y.undo();
        Check.none("live(0): there were none", y, y.live(0), 6);
        Check.due("top()", y.top(), 1);
        Check.due("bottom()", y.bottom(), 4);
        Check.due("fault(0)", y.fault(0), 1);
    }
}
