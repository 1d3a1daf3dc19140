/** Promises 44 to 52: QUEUE, holds, HALVES, groups, TRIALS, SUSPECTS. */
public final class WhoGoesWhenTest {
    public static void main(String[] args) {
        queueIsRefused();
        queueGaps();
        queueOrder();
        queueChangesNothing();
        queueOthersStand();
        holds();
        halves();
        groups();
        trials();
        suspects();
        Check.end();
    }

    // CELLS: 0 s, 1 a (9), 2 b (9), 3 t in a row; WALKERS: 0 v (5), 1 w (4), 2 u (1) in s, 3 y (1) in t.
    private static GooseIce row() {
        return Check.on("shore s;ice a bears 9;ice b bears 9;shore t;way s a;way a b;way b t;"
            + "walker v weighs 5 at s;walker w weighs 4 at s;walker u weighs 1 at s;walker y weighs 1 at t;");
    }

    private static void queueIsRefused() {
        GooseIce x = row();
        Check.none("queue(0, 0, 1)", x, x.queue(0, 0, 1), 1);
        Check.none("queue(16, 0, 1)", x, x.queue(16, 0, 1), 1);
        Check.none("queue(-1, 0, 1)", x, x.queue(-1, 0, 1), 1);
        Check.none("queue(1, 4, 1)", x, x.queue(1, 4, 1), 1);
        Check.none("queue(1, 0, 0)", x, x.queue(1, 0, 0), 1);
        Check.none("queue(1, 0, 13): 1 ahead of 2", x, x.queue(1, 0, 13), 1);
        Check.none("queue(1, 0, 1): MISSING", x, x.queue(1, 0, 1), 2);
        Check.tray(x, 0, 1, 2, 3);
        Check.none("queue(1, 0, 4)", x, x.queue(1, 0, 4), 3);
        Check.tray(x, 1, 1, 4);
        Check.none("queue(9, 1, 2): 5 ahead of 7", x, x.queue(9, 1, 2), 5);
        Check.none("queue(9, 0, 3): not in one SHORE", x, x.queue(9, 0, 3), 7);
        Check.tray(x, 1, 2);
        Check.none("queue(1, 1, 1): no such WAY", x, x.queue(1, 1, 1), 7);
        x.sendTo(2, 1);
        Check.none("queue(4, 0, 3): he has a ROUTE", x, x.queue(4, 0, 3), 7);
        x.step(1);
        Check.tray(x, 2, 2);
        Check.none("queue(4, 2, 1): he is in ICE", x, x.queue(4, 2, 1), 7);
        x.melt(1);
        Check.none("queue(4, 2, 1): he is WET", x, x.queue(4, 2, 1), 7);
        Check.none("queue(1, 0, 3): the ICE is BROKEN", x, x.queue(1, 0, 3), 6);
        Check.none("queueAt(0, 0) ahead of any", x, x.queueAt(0, 0), 6);
        GooseIce y = Check.on("shore s;shore t;way s t;walker a weighs 1 at s;walker b weighs 1 at s;"
            + "walker c weighs 1 at s;walker d weighs 1 at s;walker e weighs 1 at s;");
        Check.tray(y, 0, 1);
        Check.none("queue of five", y, y.queue(31, 0, 1), 1);
        Check.well("queue of four", y, y.queue(30, 0, 1), 4);
        Check.well("queueAt(3, 0)", y, y.queueAt(3, 0), 4);
    }

    private static void queueGaps() {
        // v alone leaves 9 - 2 = 7 in each; behind him w needs 4 where 9 - 2 - 2 = 5 are left.
        GooseIce x = row();
        Check.tray(x, 0, 1, 2, 3);
        Check.well("queue of one", x, x.queue(1, 0, 3), 3);
        Check.well("queueAt(0, 0)", x, x.queueAt(0, 0), 0);
        Check.well("queueAt(0, 1)", x, x.queueAt(0, 1), 0);
        Check.none("queueAt(1, 0)", x, x.queueAt(1, 0), 6);
        Check.well("queue(3, 0, 3)", x, x.queue(3, 0, 3), 4);
        Check.well("queueAt(0, 0)", x, x.queueAt(0, 0), 0);
        Check.well("queueAt(1, 0)", x, x.queueAt(1, 0), 1);
        Check.well("queueAt(1, 1)", x, x.queueAt(1, 1), 1);
        Check.none("queueAt(0, 2)", x, x.queueAt(0, 2), 1);
        Check.none("queueAt(9, -1): 1 ahead of 6", x, x.queueAt(9, -1), 1);
        Check.none("queueAt(-1, 0)", x, x.queueAt(-1, 0), 6);
        // Two of 5 on ICE that bears 8: the second must wait till what the first did is over (4 STEPS).
        GooseIce y = Check.on("shore s;ice a bears 8;shore t;way s a;way a t;"
            + "walker v weighs 5 at s;walker w weighs 5 at s;");
        Check.tray(y, 0, 1, 2);
        Check.well("queue(3, 0, 2)", y, y.queue(3, 0, 2), 6);
        Check.well("queueAt(1, 1)", y, y.queueAt(1, 1), 4);
        y.thaw(2);
        Check.none("queue that can't be", y, y.queue(3, 0, 2), 6);
        Check.well("queueAt(1, 1) of the latest with STATUS 0", y, y.queueAt(1, 1), 4);
        // With an HOUR of 7 it would need a GAP of 7.
        GooseIce z = Check.on("shore s;ice a bears 8;shore t;way s a;way a t;hour 7;"
            + "walker v weighs 5 at s;walker w weighs 5 at s;");
        Check.tray(z, 0, 1, 2);
        Check.none("queue with a GAP above 6", z, z.queue(3, 0, 2), 6);
        GooseIce q = Check.on("shore s;ice a bears 8;shore t;way s a;way a t;hour 6;"
            + "walker v weighs 5 at s;walker w weighs 5 at s;");
        Check.tray(q, 0, 1, 2);
        Check.well("queue with a GAP of 6", q, q.queue(3, 0, 2), 8);
        // Both stand in a at the end: the last STEP counts, too.
        GooseIce p = Check.on("shore s;ice a bears 9;way s a;worse 0;better 0;"
            + "walker v weighs 5 at s;walker w weighs 5 at s;");
        Check.tray(p, 0, 1);
        Check.none("queue whose end breaks", p, p.queue(3, 0, 1), 6);
        Check.well("queue of one to the end", p, p.queue(2, 0, 1), 1);
    }

    private static void queueOrder() {
        // 9 - 2 = 7 bear the first, 9 - 4 = 5 the second: the heavier one must be the first.
        GooseIce x = Check.on("shore s;ice a bears 9;shore t;way s a;way a t;"
            + "walker v weighs 3 at s;walker w weighs 7 at s;walker u weighs 3 at s;");
        Check.tray(x, 0, 1, 2);
        Check.well("queue(3, 0, 2)", x, x.queue(3, 0, 2), 3);
        Check.well("queueAt(0, 0)", x, x.queueAt(0, 0), 1);
        Check.well("queueAt(1, 0)", x, x.queueAt(1, 0), 0);
        Check.well("queue(7, 0, 2): 7, then 3, then 3", x, x.queue(7, 0, 2), 4);
        int[] who = {1, 0, 2};
        for (int k = 0; k < 3; k++) {
            Check.well("queueAt(" + k + ", 0)", x, x.queueAt(k, 0), who[k]);
            Check.well("queueAt(" + k + ", 1)", x, x.queueAt(k, 1), k == 0 ? 0 : 1);
        }
    }

    private static void queueChangesNothing() {
        GooseIce x = row();
        Check.tray(x, 0, 1, 2, 3);
        x.queue(3, 0, 3);
        Check.well("told(5)", x, x.told(5), 0);
        Check.well("told(9)", x, x.told(9), 0);
        Check.well("walker(0, 1)", x, x.walker(0, 1), 0);
        Check.well("ice(1, 2)", x, x.ice(1, 2), 0);
    }

    private static void queueOthersStand() {
        // u has a ROUTE and stands in a: he is a LOAD there as long as the QUEUE goes.
        GooseIce x = Check.on("shore s;ice a bears 9;shore t;way s a;way a t;worse 0;"
            + "walker u weighs 3 at s;walker v weighs 6 at s;walker w weighs 7 at s;");
        Check.tray(x, 0, 1, 2);
        x.send(0, 0, 2);
        x.step(1);
        Check.well("queue(2, 0, 2): 3 and 6 are 9", x, x.queue(2, 0, 2), 2);
        Check.none("queue(4, 0, 2): 3 and 7 are 10", x, x.queue(4, 0, 2), 6);
        Check.well("told(9): his ROUTE is still there", x, x.told(9), 1);
    }

    private static void holds() {
        GooseIce x = row();
        Check.well("holds() with nobody walking", x, x.holds(), 0);
        x.sendTo(0, 3);
        Check.well("holds()", x, x.holds(), 0);
        Check.tray(x, 0, 1, 2);
        x.send(1, 0, 2);
        Check.well("holds(): 5 and 4 come at once", x, x.holds(), 1);
        Check.well("told(5) stays", x, x.told(5), 0);
        x.halt(1);
        Check.tray(x, 1, 2, 1, 2);
        x.hew(3, 0, true);
        x.send(3, 1, 3);
        // STEP 1: v in a, y in b; STEP 2: v in b, y in a; b then bears 9 - 4 = 5, a the same.
        Check.well("holds() of two who meet", x, x.holds(), 0);
        x.thaw(1);
        Check.well("holds(): b bears 8 - 4 = 4 in the second STEP", x, x.holds(), 2);
        Check.well("told(9) stays", x, x.told(9), 9);
        x.halt(0);
        x.halt(3);
        x.weigh(0, 99);
        Check.well("holds() asks no STEP when nobody walks", x, x.holds(), 0);
        GooseIce y = Check.on("shore s;shore t;ice a bears 3;way s t;way t a;way s a;walker v weighs 9 at s;");
        y.tray(0, 0, 20);
        for (int k = 0; k < 20; k++) {
            y.write(0, k, k == 19 ? 2 : 1 - k % 2);
        }
        Check.well("send along twenty", y, y.send(0, 0, 20), 20);
        Check.well("holds(): the twentieth STEP", y, y.holds(), 20);
    }

    private static GooseIce crew() {
        return Check.on("shore s;walker a weighs 6 at s;walker b weighs 5 at s;walker c weighs 4 at s;"
            + "walker d weighs 3 at s;walker e weighs 2 at s;");
    }

    private static void halves() {
        GooseIce x = crew();
        Check.none("halves(0)", x, x.halves(0), 1);
        Check.none("halves(32)", x, x.halves(32), 1);
        Check.none("half(0)", x, x.half(0), 1);
        Check.none("half(-1)", x, x.half(-1), 1);
        Check.well("halves(31): 20 in all", x, x.halves(31), 0);
        // With a: 6 + 4 is 10 (a, c: 5); 6 + ... + 2 = 11 with d; a, c is the least.
        Check.well("half(31)", x, x.half(31), 5);
        Check.well("halves(4) of one", x, x.halves(4), 4);
        Check.well("half(4) of one", x, x.half(4), 4);
        Check.well("halves(14): 5, 4, 3", x, x.halves(14), 2);
        // With b: 5 against 7, or 5 + 4 against 3 ..: b alone.
        Check.well("half(14)", x, x.half(14), 2);
        Check.well("halves(26): 5, 3, 2", x, x.halves(26), 0);
        Check.well("half(26)", x, x.half(26), 2);
        GooseIce y = Check.on("shore s;walker a weighs 2 at s;walker b weighs 2 at s;walker c weighs 2 at s;"
            + "walker d weighs 2 at s;");
        Check.well("half(15): a, b and not a, c", y, y.half(15), 3);
    }

    private static void groups() {
        GooseIce x = crew();
        Check.none("groups(0, 9)", x, x.groups(0, 9), 1);
        Check.none("groups(32, 9)", x, x.groups(32, 9), 1);
        Check.none("groups(31, 0)", x, x.groups(31, 0), 1);
        Check.none("groups(31, 1000)", x, x.groups(31, 1000), 1);
        Check.well("groups(31, 10): 6 + 4, 5 + 3 + 2", x, x.groups(31, 10), 2);
        Check.well("groups(31, 9)", x, x.groups(31, 9), 3);
        Check.well("groups(31, 6)", x, x.groups(31, 6), 4);
        Check.none("groups(31, 5): a is heavier alone", x, x.groups(31, 5), 6);
        Check.well("groups(30, 5)", x, x.groups(30, 5), 3);
        Check.well("groups(31, 999)", x, x.groups(31, 999), 1);
        Check.well("groups(1, 6)", x, x.groups(1, 6), 1);
    }

    private static void trials() {
        GooseIce x = new GooseIce();
        Check.none("trials(-1, 1)", x, x.trials(-1, 1), 1);
        Check.none("trials(61, 1)", x, x.trials(61, 1), 1);
        Check.none("trials(5, 0)", x, x.trials(5, 0), 1);
        Check.none("trials(5, 7)", x, x.trials(5, 7), 1);
        Check.none("tryFirst(61, 1)", x, x.tryFirst(61, 1), 1);
        Check.none("tryFirst(0, 7): 1 ahead of 6", x, x.tryFirst(0, 7), 1);
        Check.none("tryFirst(0, 1)", x, x.tryFirst(0, 1), 6);
        Check.well("trials(0, 6)", x, x.trials(0, 6), 0);
        Check.well("trials(1, 1)", x, x.trials(1, 1), 1);
        Check.well("trials(60, 1)", x, x.trials(60, 1), 60);
        Check.well("tryFirst(60, 1)", x, x.tryFirst(60, 1), 1);
        // Two breaks: 10 trials tell 55 weights, 11 tell 66.
        Check.well("trials(55, 2)", x, x.trials(55, 2), 10);
        Check.well("tryFirst(55, 2)", x, x.tryFirst(55, 2), 10);
        Check.well("trials(56, 2)", x, x.trials(56, 2), 11);
        Check.well("tryFirst(56, 2)", x, x.tryFirst(56, 2), 1);
        Check.well("tryFirst(60, 2)", x, x.tryFirst(60, 2), 5);
        // Six breaks: 5 trials tell 31, 6 tell 63.
        Check.well("trials(31, 6)", x, x.trials(31, 6), 5);
        Check.well("trials(32, 6)", x, x.trials(32, 6), 6);
        Check.well("tryFirst(60, 6)", x, x.tryFirst(60, 6), 29);
    }

    private static void suspects() {
        // s - a(5) - b(9) - t, s - c(3) - t; WALKERS 0 v (2), 1 w (5), 2 u (7), 3 y (12).
        GooseIce x = Check.on("shore s;ice a bears 5;ice b bears 9;shore t;ice c bears 3;way s a;way a b;way b t;"
            + "way s c;way c t;walker v weighs 2 at s;walker w weighs 5 at s;walker u weighs 7 at t;"
            + "walker y weighs 12 at t;");
        Check.none("suspects(-1)", x, x.suspects(-1), 1);
        Check.none("suspects(32)", x, x.suspects(32), 1);
        Check.none("suspects(8): a SHORE", x, x.suspects(8), 1);
        Check.well("suspects(2): a broke under u; y would have broken b, too", x, x.suspects(2), 4);
        Check.well("suspects(6): a and b under y", x, x.suspects(6), 8);
        Check.well("suspects(4): b alone under nobody", x, x.suspects(4), 0);
        Check.well("suspects(16): c under w, u, y", x, x.suspects(16), 14);
        Check.well("suspects(18): no way through both", x, x.suspects(18), 0);
        Check.well("suspects(0): who comes over without a crack", x, x.suspects(0), 3);
        x.hew(0, 3, true);
        Check.well("suspects(0): a WAY from SHORE to SHORE", x, x.suspects(0), 15);
        x.melt(1);
        Check.well("suspects(2): BROKEN ICE has no STRENGTH", x, x.suspects(2), 7);
        GooseIce y = Check.on("shore s;ice a bears 1;ice b bears 9;way s a;way a b;way s b;walker v weighs 2 at s;");
        Check.well("suspects(2): to another SHORE", y, y.suspects(2), 0);
        // From s by m to t, with a and b to crack: a way through a third SHORE is not through ICE alone.
        GooseIce z = Check.on("shore s;ice a bears 1;shore m;ice b bears 1;shore t;way s a;way a m;way m b;way b t;"
            + "walker v weighs 2 at s;");
        Check.well("suspects(10)", z, z.suspects(10), 0);
        Check.well("suspects(2)", z, z.suspects(2), 1);
        Check.well("suspects(8)", z, z.suspects(8), 1);
    }
}
