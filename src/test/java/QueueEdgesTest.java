/** Promises 44 to 52 at the bounds that the document names: QUEUE, holds, HALVES, groups, TRIALS, SUSPECTS. */
public final class QueueEdgesTest {
    public static void main(String[] args) {
        queueOfOneToFour();
        queueOfTwelve();
        gapsToSix();
        firstByWalkers();
        firstByGaps();
        fewestSteps();
        breaksElsewhere();
        lastStepCounts();
        othersStand();
        queueAtBounds();
        holdsBounds();
        halvesBounds();
        groupsBounds();
        trialsBounds();
        suspectsBounds();
        suspectsNoCellTwice();
        suspectsOfTenCells();
        Check.end();
    }

    private static String walkers(String weights) {
        StringBuilder b = new StringBuilder();
        String[] all = weights.split(" ");
        for (int k = 0; k < all.length; k++) {
            b.append("walker w").append((char) ('a' + k)).append(" weighs ").append(all[k]).append(" at s;");
        }
        return b.toString();
    }

    private static void queueIs(String call, GooseIce x, int... menAndGaps) {
        for (int k = 0; k < menAndGaps.length / 2; k++) {
            Check.well("queueAt(" + k + ", 0) of " + call, x, x.queueAt(k, 0), menAndGaps[2 * k]);
            Check.well("queueAt(" + k + ", 1) of " + call, x, x.queueAt(k, 1), menAndGaps[2 * k + 1]);
        }
        Check.none("queueAt behind the last of " + call, x, x.queueAt(menAndGaps.length / 2, 0), 6);
    }

    // ---- promises 44, 45

    private static void queueOfOneToFour() {
        GooseIce x = Check.on("shore s;shore t;way s t;" + walkers("1 1 1 1 1 1 1 1"));
        Check.tray(x, 0, 1);
        Check.none("queue(0, 0, 1): none", x, x.queue(0, 0, 1), 1);
        Check.well("queue(128, 0, 1): one", x, x.queue(128, 0, 1), 1);
        queueIs("one", x, 7, 0);
        Check.well("queue(129, 0, 1): two", x, x.queue(129, 0, 1), 2);
        queueIs("two", x, 0, 0, 7, 1);
        Check.well("queue(240, 0, 1): four", x, x.queue(240, 0, 1), 4);
        queueIs("four", x, 4, 0, 5, 1, 6, 1, 7, 1);
        Check.none("queue(241, 0, 1): five", x, x.queue(241, 0, 1), 1);
        Check.none("queue(255, 0, 1): eight", x, x.queue(255, 0, 1), 1);
        Check.none("queue(256, 0, 1): no such WALKER", x, x.queue(256, 0, 1), 1);
        Check.none("queue(257, 0, 1): no such WALKER", x, x.queue(257, 0, 1), 1);
        queueIs("four, the latest with STATUS 0", x, 4, 0, 5, 1, 6, 1, 7, 1);
    }

    private static void queueOfTwelve() {
        GooseIce x = Check.on("shore s;ice a bears 3;shore t;way s a;way a t;hour 1;worse 1;"
            + "better 0;" + walkers("2 2 2 2"));
        // Twelve CELLS: to and fro between s, a and t, six times into a.
        Check.tray(x, 0, 1, 2, 1, 0, 1, 2, 1, 0, 1, 2, 1, 0, 1);
        Check.well("queue of one along twelve", x, x.queue(1, 0, 12), 12);
        Check.none("queue along thirteen", x, x.queue(1, 0, 13), 1);
        // Each is in a every second STEP: with a GAP of 1 they are never there both.
        Check.well("queue of two along twelve", x, x.queue(3, 0, 12), 13);
        queueIs("two along twelve", x, 0, 0, 1, 1);
        Check.tray(x, 1, 1);
        Check.well("queue of one along one", x, x.queue(1, 1, 1), 1);
        Check.none("queue along two of one", x, x.queue(1, 1, 2), 3);
    }

    private static String narrow(int hour, String weights) {
        return "shore s;ice a bears 8;shore t;way s a;way a t;hour " + hour + ";" + walkers(weights);
    }

    private static void gapsToSix() {
        // 8 less 2 bears 5, 8 less 4 does not: each must wait till HOUR is over.
        for (int hour = 1; hour <= 7; hour++) {
            GooseIce x = Check.on(narrow(hour, "5 5"));
            Check.tray(x, 0, 1, 2);
            if (hour == 7) {
                Check.none("queue with a GAP of 7", x, x.queue(3, 0, 2), 6);
            } else {
                Check.well("queue with a GAP of " + hour, x, x.queue(3, 0, 2), 2 + hour);
                queueIs("a GAP of " + hour, x, 0, 0, 1, hour);
            }
        }
        GooseIce y = Check.on(narrow(6, "5 5 5 5") + "better 0;");
        Check.tray(y, 0, 1, 2);
        Check.well("queue of four with GAPS of 6", y, y.queue(15, 0, 2), 2 + 18);
        queueIs("GAPS of 6", y, 0, 0, 1, 6, 2, 6, 3, 6);
    }

    private static void firstByWalkers() {
        // 7 must be the first on 9 less 2, then 3 on 9 less 4, 1 on 9 less 6.
        GooseIce x = Check.on("shore s;ice a bears 9;shore t;way s a;way a t;" + walkers("1 3 7"));
        Check.tray(x, 0, 1, 2);
        Check.well("queue(7, 0, 2)", x, x.queue(7, 0, 2), 4);
        queueIs("7, 3, 1", x, 2, 0, 0, 1, 1, 1);
        x.weigh(1, 5);
        // 5 can't be the third on 3: 7, 5, 1 alone.
        Check.well("queue(7, 0, 2)", x, x.queue(7, 0, 2), 4);
        queueIs("7, 5, 1", x, 2, 0, 1, 1, 0, 1);
    }

    private static void firstByGaps() {
        // 9 bears 5 with two in one HOUR of 3, not with three: GAPS of 1 and 2, and of 2 and 1, are alike.
        GooseIce x = Check.on("shore s;ice a bears 9;shore t;way s a;way a t;hour 3;better 0;" + walkers("5 5 5"));
        Check.tray(x, 0, 1, 2);
        Check.well("queue(7, 0, 2)", x, x.queue(7, 0, 2), 5);
        queueIs("1, then 2", x, 0, 0, 1, 1, 2, 2);
    }

    private static void fewestSteps() {
        // The least order 0, 1 is over in 6 STEPS, 1, 0 in 3: the fewest STEPS come ahead of the WALKERS.
        GooseIce x = Check.on("shore s;ice a bears 8;shore t;way s a;way a t;better 0;" + walkers("4 6"));
        Check.tray(x, 0, 1, 2);
        Check.well("queue(3, 0, 2)", x, x.queue(3, 0, 2), 3);
        queueIs("6 ahead of 4", x, 1, 0, 0, 1);
        x.weigh(0, 5);
        Check.well("queue(3, 0, 2): each must wait, so by WALKERS", x, x.queue(3, 0, 2), 6);
        queueIs("5 ahead of 6", x, 0, 0, 1, 4);
        // With an HOUR of 2 it is 4 STEPS against 3.
        GooseIce y = Check.on("shore s;ice a bears 8;shore t;way s a;way a t;hour 2;better 0;" + walkers("4 6"));
        Check.tray(y, 0, 1, 2);
        Check.well("queue(3, 0, 2): one STEP fewer", y, y.queue(3, 0, 2), 3);
        queueIs("6 ahead of 4, one STEP fewer", y, 1, 0, 0, 1);
    }

    private static void breaksElsewhere() {
        // b is too weak for who stands on it since then: it BREAKS in the first STEP, whoever goes.
        GooseIce x = Check.on("shore s;ice a bears 50;shore t;ice b bears 50;way s a;way a t;"
            + "way s b;" + walkers("1 9"));
        Check.tray(x, 0, 1, 2);
        x.sendTo(1, 3);
        x.step(1);
        Check.well("queue(1, 0, 2)", x, x.queue(1, 0, 2), 2);
        x.thaw(20);
        x.thaw(20);
        Check.none("queue(1, 0, 2): 9 on 8", x, x.queue(1, 0, 2), 6);
        x.frost(1);
        Check.well("queue(1, 0, 2): 9 on 9", x, x.queue(1, 0, 2), 2);
        x.melt(3);
        Check.well("queue(1, 0, 2): what is BROKEN breaks no more", x, x.queue(1, 0, 2), 2);
        x.melt(1);
        Check.none("queue(1, 0, 2) into BROKEN ICE", x, x.queue(1, 0, 2), 6);
        Check.tray(x, 0, 3);
        Check.none("queue(1, 0, 1) into BROKEN ICE", x, x.queue(1, 0, 1), 6);
        // Of a longer row the first n alone are asked.
        x.frost(20);
        x.melt(3);
        Check.tray(x, 0, 1, 0, 3);
        Check.none("queue(1, 0, 3): BROKEN ICE at the end", x, x.queue(1, 0, 3), 6);
        Check.well("queue(1, 0, 2): it is behind the end", x, x.queue(1, 0, 2), 2);
        // b, which nobody goes to, is BESIDE a.
        GooseIce y = Check.on("shore s;ice a bears 50;shore t;ice b bears 4;way s a;way a t;"
            + "beside a b;" + walkers("4 5"));
        Check.tray(y, 0, 1, 2);
        Check.well("queue(1, 0, 2): 4 BESIDE 4", y, y.queue(1, 0, 2), 2);
        Check.none("queue(2, 0, 2): 5 BESIDE 4", y, y.queue(2, 0, 2), 6);
    }

    private static void lastStepCounts() {
        // All stand on a at the end: 9 bears 4 and 5, not 4 and 6; what happens behind that is not asked.
        GooseIce x = Check.on("shore s;ice a bears 9;way s a;worse 0;better 0;" + walkers("4 5 6"));
        Check.tray(x, 0, 1);
        Check.well("queue(3, 0, 1)", x, x.queue(3, 0, 1), 2);
        Check.none("queue(5, 0, 1)", x, x.queue(5, 0, 1), 6);
        // The same at the end of two CELLS and of three.
        GooseIce z = Check.on("shore s;ice a bears 9;shore m;shore n;way s m;way m a;way m n;way n a;worse 0;better 0;"
            + walkers("4 5 6"));
        Check.tray(z, 0, 2, 1);
        Check.well("queue(3, 0, 2)", z, z.queue(3, 0, 2), 3);
        Check.none("queue(5, 0, 2)", z, z.queue(5, 0, 2), 6);
        Check.tray(z, 0, 2, 3, 1);
        Check.well("queue(3, 0, 3)", z, z.queue(3, 0, 3), 4);
        Check.none("queue(5, 0, 3)", z, z.queue(5, 0, 3), 6);
        // WORSE 1: 9 less 1 bears 4, then 9 less 2 not 4 and 5; less 1 for the second alone, 10 by then: 9.
        GooseIce y = Check.on("shore s;ice a bears 9;way s a;worse 1;hour 5;better 1;" + walkers("4 5"));
        Check.tray(y, 0, 1);
        Check.well("queue(3, 0, 1) waits for BETTER", y, y.queue(3, 0, 1), 6);
        queueIs("BETTER", y, 0, 0, 1, 5);
    }

    private static void othersStand() {
        // c has a ROUTE into a: he stands in s as long as the QUEUE goes, and has it still behind that.
        GooseIce x = Check.on("shore s;ice a bears 9;shore t;way s a;way a t;" + walkers("7 1 7"));
        Check.tray(x, 0, 1, 2);
        x.send(2, 0, 2);
        Check.well("queue(3, 0, 2): 7 on 7 alone", x, x.queue(3, 0, 2), 3);
        Check.well("walker(2, 2)", x, x.walker(2, 2), 2);
        Check.well("walker(2, 1)", x, x.walker(2, 1), 0);
        Check.well("told(5)", x, x.told(5), 0);
        Check.well("ice(1, 4)", x, x.ice(1, 4), 0);
    }

    private static void queueAtBounds() {
        GooseIce x = Check.on("shore s;shore t;way s t;" + walkers("1 1"));
        Check.none("queueAt(0, 0) ahead of any", x, x.queueAt(0, 0), 6);
        Check.none("queueAt(0, 2) ahead of any", x, x.queueAt(0, 2), 1);
        Check.tray(x, 0, 1);
        x.queue(3, 0, 1);
        Check.well("queueAt(1, 0)", x, x.queueAt(1, 0), 1);
        Check.none("queueAt(2, 0)", x, x.queueAt(2, 0), 6);
        x.queue(2, 0, 1);
        queueIs("a shorter one", x, 1, 0);
        x.hew(0, 1, false);
        Check.none("queue with STATUS 7", x, x.queue(3, 0, 1), 7);
        queueIs("the latest with STATUS 0", x, 1, 0);
        Check.lake(x, "shore z;");
        queueIs("the latest with STATUS 0, of an old LAKE", x, 1, 0);
    }

    // ---- promise 46

    private static void holdsBounds() {
        GooseIce x = Check.on("shore s;ice a bears 9;shore t;way s a;way a t;" + walkers("7 1"));
        Check.well("holds() with no ROUTES", x, x.holds(), 0);
        x.sendTo(0, 2);
        Check.well("holds()", x, x.holds(), 0);
        x.thaw(1);
        Check.well("holds(): the first STEP", x, x.holds(), 1);
        x.frost(1);
        Check.tray(x, 0, 1, 0, 1);
        x.send(1, 0, 3);
        Check.well("holds(): both at once", x, x.holds(), 1);
        x.halt(0);
        // In STEP 3 w comes to a for the second time, 9 less 4 for 1 and what stands there.
        Check.well("holds()", x, x.holds(), 0);
        x.weigh(1, 6);
        Check.well("holds(): the third STEP", x, x.holds(), 3);
        Check.well("told(5): nothing changed", x, x.told(5), 0);
        Check.well("told(7): nothing changed", x, x.told(7), 0);
        // What stands on ICE too weak BREAKS in the next STEP, but no STEP is made if nobody walks.
        GooseIce y = Check.on("shore s;ice a bears 9;way s a;shore t;way s t;" + walkers("7 1"));
        y.sendTo(0, 1);
        y.step(1);
        y.thaw(1);
        Check.well("holds() with no ROUTES", y, y.holds(), 0);
        y.sendTo(1, 2);
        Check.well("holds() as soon as one walks", y, y.holds(), 1);
        // Who comes into BROKEN ICE is WET; no ICE BREAKS.
        GooseIce z = Check.on("shore s;ice a bears 9;way s a;" + walkers("7"));
        z.sendTo(0, 1);
        z.melt(1);
        Check.well("holds() into BROKEN ICE", z, z.holds(), 0);
        // A ROUTE of 20 that ends on ICE that breaks.
        GooseIce q = Check.on("shore s;shore t;ice a bears 0;way s t;way s a;way t a;" + walkers("1"));
        q.tray(0, 0, 20);
        for (int k = 0; k < 20; k++) {
            q.write(0, k, k == 19 ? 2 : 1 - k % 2);
        }
        q.send(0, 0, 20);
        Check.well("holds(): the twentieth STEP", q, q.holds(), 20);
        q.frost(3);
        Check.well("holds(): 1 on 1", q, q.holds(), 0);
        Check.well("step(20)", q, q.step(20), 0);
    }

    // ---- promises 47 to 49

    private static void halvesBounds() {
        GooseIce x = Check.on("shore s;" + walkers("99 99 99 99 99 99 99 99"));
        Check.well("halves(255)", x, x.halves(255), 0);
        Check.well("half(255): the first four", x, x.half(255), 15);
        Check.well("halves(128) of one", x, x.halves(128), 99);
        Check.well("half(128) of one", x, x.half(128), 128);
        Check.well("halves(127) of seven", x, x.halves(127), 99);
        Check.well("half(127): three, the least as a number", x, x.half(127), 7);
        Check.none("halves(256)", x, x.halves(256), 1);
        Check.none("half(256)", x, x.half(256), 1);
        Check.well("halves(192) of two", x, x.halves(192), 0);
        Check.well("half(192): that with the least number", x, x.half(192), 64);
        GooseIce y = Check.on("shore s;" + walkers("1 99 1"));
        Check.well("halves(7)", y, y.halves(7), 97);
        Check.well("half(7): 1 and 1", y, y.half(7), 5);
        Check.well("half(3): the light one", y, y.half(3), 1);
        Check.well("half(6): the heavy one", y, y.half(6), 2);
    }

    private static void groupsBounds() {
        GooseIce x = Check.on("shore s;" + walkers("99 99 99 99 99 99 99 99"));
        Check.well("groups(255, 792): all", x, x.groups(255, 792), 1);
        Check.well("groups(255, 791)", x, x.groups(255, 791), 2);
        Check.well("groups(255, 396): four and four", x, x.groups(255, 396), 2);
        Check.well("groups(255, 395)", x, x.groups(255, 395), 3);
        Check.well("groups(255, 198)", x, x.groups(255, 198), 4);
        Check.well("groups(255, 99)", x, x.groups(255, 99), 8);
        Check.none("groups(255, 98): one is heavier alone", x, x.groups(255, 98), 6);
        Check.well("groups(255, 999)", x, x.groups(255, 999), 1);
        Check.none("groups(255, 1000)", x, x.groups(255, 1000), 1);
        Check.none("groups(256, 999)", x, x.groups(256, 999), 1);
        GooseIce y = Check.on("shore s;" + walkers("1 1 2 99"));
        Check.well("groups(3, 1)", y, y.groups(3, 1), 2);
        Check.well("groups(1, 1)", y, y.groups(1, 1), 1);
        Check.none("groups(7, 1)", y, y.groups(7, 1), 6);
        Check.well("groups(7, 2)", y, y.groups(7, 2), 2);
        Check.well("groups(15, 101)", y, y.groups(15, 101), 2);
        GooseIce few = Check.on("shore s;" + walkers("2 2 1 1 2 2 1"));
        Check.well("groups(7, 2): 2, 2, 1", few, few.groups(7, 2), 3);
        Check.well("groups(127, 2): 2, 2, 2, 2, 1 + 1, 1", few, few.groups(127, 2), 6);
        Check.well("groups(63, 2): 2, 2, 2, 2, 1 + 1", few, few.groups(63, 2), 5);
        // 6 6 5 5 4 4 by 10: taking the heaviest that fits would need four.
        GooseIce z = Check.on("shore s;" + walkers("4 5 6 4 5 6"));
        Check.well("groups(63, 10)", z, z.groups(63, 10), 3);
        Check.well("groups(63, 9)", z, z.groups(63, 9), 4);
    }

    // ---- promises 50, 51

    private static void trialsBounds() {
        GooseIce x = new GooseIce();
        int[] ofSixty = {60, 11, 7, 7, 6, 6};
        for (int b = 1; b <= 6; b++) {
            Check.well("trials(0, " + b + ")", x, x.trials(0, b), 0);
            Check.well("trials(1, " + b + ")", x, x.trials(1, b), 1);
            Check.well("trials(60, " + b + ")", x, x.trials(60, b), ofSixty[b - 1]);
            Check.none("tryFirst(0, " + b + ")", x, x.tryFirst(0, b), 6);
            Check.well("tryFirst(1, " + b + ")", x, x.tryFirst(1, b), 1);
        }
        for (int n = 1; n <= 60; n++) {
            Check.well("trials(" + n + ", 1)", x, x.trials(n, 1), n);
            Check.well("tryFirst(" + n + ", 1)", x, x.tryFirst(n, 1), 1);
        }
        // With two breaks t trials tell t (t + 1) / 2 weights; just so many must begin at t, one more at 1.
        for (int t = 2; t <= 10; t++) {
            int n = t * (t + 1) / 2;
            Check.well("trials(" + n + ", 2)", x, x.trials(n, 2), t);
            Check.well("tryFirst(" + n + ", 2)", x, x.tryFirst(n, 2), t);
            Check.well("trials(" + (n + 1) + ", 2)", x, x.trials(n + 1, 2), t + 1);
            Check.well("tryFirst(" + (n + 1) + ", 2)", x, x.tryFirst(n + 1, 2), 1);
        }
        // With six breaks t trials tell 2^t - 1 weights, up to 63.
        for (int t = 1; t <= 5; t++) {
            int n = (1 << t) - 1;
            Check.well("trials(" + n + ", 6)", x, x.trials(n, 6), t);
            Check.well("tryFirst(" + n + ", 6)", x, x.tryFirst(n, 6), 1 << t - 1);
            Check.well("trials(" + (n + 1) + ", 6)", x, x.trials(n + 1, 6), t + 1);
            Check.well("tryFirst(" + (n + 1) + ", 6)", x, x.tryFirst(n + 1, 6), 1);
        }
    }

    // ---- promise 52

    private static void suspectsBounds() {
        // s - a(5) - t: 5 is no less than 5, 6 is above it.
        GooseIce x = Check.on("ice a bears 5;shore s;shore t;way s a;way a t;" + walkers("4 5 6"));
        Check.well("suspects(1): the STRENGTH is below 6", x, x.suspects(1), 4);
        Check.well("suspects(0): it is no less than 4 and 5", x, x.suspects(0), 3);
        Check.none("suspects(8): no such CELL", x, x.suspects(8), 1);
        Check.none("suspects(2): a SHORE", x, x.suspects(2), 1);
        Check.none("suspects(5): a SHORE, too", x, x.suspects(5), 1);
        // LOADS do not matter, who CAME INTO it does.
        GooseIce y = Check.on("ice a bears 9;shore s;shore t;way s a;way a t;" + walkers("4 5 6 7 8"));
        y.sendTo(0, 0);
        y.step(1);
        Check.well("ice(0, 1)", y, y.ice(0, 1), 7);
        Check.well("suspects(1): 8 alone", y, y.suspects(1), 16);
        Check.well("suspects(0): all others", y, y.suspects(0), 15);
        // A WET one is a WALKER, too; BROKEN ICE has STRENGTH 0.
        y.melt(0);
        Check.well("suspects(1) of BROKEN ICE: all", y, y.suspects(1), 31);
        Check.well("suspects(0): nobody", y, y.suspects(0), 0);
        // Back to the same SHORE is no way to another one.
        GooseIce z = Check.on("ice a bears 1;ice b bears 1;shore s;shore t;way s a;way a b;way b s;" + walkers("2"));
        Check.well("suspects(3): there is no way to t", z, z.suspects(3), 0);
        z.hew(1, 3, true);
        Check.well("suspects(3): now there is", z, z.suspects(3), 1);
        Check.well("suspects(1): he would crack b, too", z, z.suspects(1), 0);
        Check.well("suspects(2): by b alone", z, z.suspects(2), 1);
        GooseIce one = Check.on("ice a bears 1;shore s;way s a;" + walkers("2"));
        Check.well("suspects(1) with one SHORE", one, one.suspects(1), 0);
        Check.well("suspects(0) with one SHORE", one, one.suspects(0), 0);
        GooseIce ice = Check.on("ice a bears 1;ice b bears 1;way a b;");
        Check.well("suspects(3) of ICE alone", ice, ice.suspects(3), 0);
        Check.none("suspects(4) of ICE alone", ice, ice.suspects(4), 1);
        Check.none("suspects(-1) of ICE alone", ice, ice.suspects(-1), 1);
        GooseIce none = Check.on("shore s;shore t;" + walkers("2"));
        Check.well("suspects(0) with no WAY", none, none.suspects(0), 0);
        none.hew(0, 1, true);
        Check.well("suspects(0) from SHORE to SHORE", none, none.suspects(0), 1);
    }

    private static void suspectsNoCellTwice() {
        // b hangs at a: who goes there must come back by a.
        GooseIce x = Check.on("ice a bears 9;ice b bears 1;shore s;shore t;way s a;way a b;way a t;" + walkers("2"));
        Check.well("suspects(2): b lies at no way", x, x.suspects(2), 0);
        x.hew(1, 3, true);
        Check.well("suspects(2): s, a, b, t", x, x.suspects(2), 1);
        x.hew(0, 2, false);
        x.hew(1, 2, true);
        Check.well("suspects(2): s, b, a, t", x, x.suspects(2), 1);
        // By a third SHORE no way goes: it ends there.
        GooseIce y = Check.on("ice a bears 1;ice b bears 1;shore s;shore m;shore t;way s a;way a m;way m b;way b t;"
            + walkers("2"));
        Check.well("suspects(3)", y, y.suspects(3), 0);
        Check.well("suspects(1): s, a, m", y, y.suspects(1), 1);
        Check.well("suspects(2): m, b, t", y, y.suspects(2), 1);
    }

    private static void suspectsOfTenCells() {
        StringBuilder b = new StringBuilder("shore s;");
        for (char c = 'a'; c <= 'h'; c++) {
            b.append("ice ").append(c).append(" bears 1;");
        }
        b.append("shore t;");
        String[] row = {"s", "h", "a", "g", "b", "f", "c", "e", "d", "t"};
        for (int k = 0; k < 9; k++) {
            b.append("way ").append(row[k]).append(' ').append(row[k + 1]).append(';');
        }
        GooseIce x = Check.on(b + walkers("1 2"));
        Check.well("suspects(510): all eight in a row", x, x.suspects(510), 2);
        Check.well("suspects(0)", x, x.suspects(0), 1);
        Check.well("suspects(254): he would crack h, too", x, x.suspects(254), 0);
        Check.none("suspects(511): a SHORE in it", x, x.suspects(511), 1);
        Check.none("suspects(1023): both SHORES in it", x, x.suspects(1023), 1);
        Check.none("suspects(1024): no such CELL", x, x.suspects(1024), 1);
        // CELL 0 in the middle of the way.
        GooseIce y = Check.on("ice a bears 1;ice b bears 1;ice c bears 1;shore s;shore t;way s b;way b a;way a c;"
            + "way c t;"
            + walkers("1 2 2"));
        Check.well("groups(7, 99)", y, y.groups(7, 99), 1);
        Check.well("suspects(3): he would crack c, too", y, y.suspects(3), 0);
        Check.well("suspects(7): s, b, a, c, t", y, y.suspects(7), 6);
        Check.well("suspects(6): he would crack a, too", y, y.suspects(6), 0);
        Check.well("suspects(0): s, b, a, c, t", y, y.suspects(0), 1);
    }
}
