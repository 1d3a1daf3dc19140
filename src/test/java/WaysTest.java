/** Promises 30 to 43: what BEARS whom, WAY, SUREST, CUT, and what else is asked of ICE. */
public final class WaysTest {
    public static void main(String[] args) {
        margins();
        ways();
        firstOfShortest();
        longWays();
        surest();
        reach();
        cuts();
        heaviest();
        weakest();
        tooHeavy();
        ready();
        Check.end();
    }

    // s - a(10) - b(12) - t and s - c(30) - d(7) - t; WALKERS 0 v (6), 1 w (4) in s.
    private static GooseIce two() {
        return Check.on("shore s;ice a bears 10;ice b bears 12;ice c bears 30;ice d bears 7;shore t;way s a;way a b;"
            + "way b t;way s c;way c d;way d t;walker v weighs 6 at s;walker w weighs 4 at s;");
    }

    private static void margins() {
        GooseIce x = two();
        Check.well("margin(0, 0) of a SHORE", x, x.margin(0, 0), 999);
        Check.well("margin(0, 1)", x, x.margin(0, 1), 2);
        Check.well("margin(0, 4)", x, x.margin(0, 4), -1);
        Check.well("bears(0, 4)", x, x.bears(0, 4), 0);
        Check.well("bears(1, 4)", x, x.bears(1, 4), 1);
        Check.well("bears(0, 5) of a SHORE", x, x.bears(0, 5), 1);
        Check.none("bears(2, 1)", x, x.bears(2, 1), 1);
        Check.none("bears(0, 6)", x, x.bears(0, 6), 1);
        Check.none("margin(-1, 1)", x, x.margin(-1, 1), 1);
        Check.none("margin(0, -1)", x, x.margin(0, -1), 1);
        x.sendTo(1, 1);
        x.step(1);
        // w is in a and came into it: 10 - 2 - 2 - 4 - 6.
        Check.well("margin(0, 1) with another one", x, x.margin(0, 1), -4);
        Check.well("margin(1, 1): he is no LOAD of others", x, x.margin(1, 1), 2);
        x.melt(1);
        Check.well("margin(0, 1) of BROKEN ICE", x, x.margin(0, 1), -6);
        Check.well("bears(0, 1) of BROKEN ICE", x, x.bears(0, 1), 0);
        GooseIce y = Check.on("shore s;ice a bears 3;ice b bears 9;worse 9;way s b;beside a b;"
            + "walker v weighs 2 at s;walker w weighs 1 at s;");
        Check.well("margin: STRENGTH is 0 at least", y, y.margin(0, 1), -2);
        Check.tray(y, 0, 2);
        y.frost(20);
        y.send(1, 0, 1);
        y.step(1);
        Check.well("margin: who is BESIDE counts", y, y.margin(0, 1), 23 - 9 - 1 - 2);
    }

    private static void ways() {
        GooseIce x = two();
        Check.well("far(0, 5)", x, x.far(0, 5), 3);
        Check.well("wayAt(0, 5, 0)", x, x.wayAt(0, 5, 0), 1);
        Check.well("wayAt(0, 5, 1)", x, x.wayAt(0, 5, 1), 2);
        Check.well("wayAt(0, 5, 2)", x, x.wayAt(0, 5, 2), 5);
        Check.none("wayAt(0, 5, 3)", x, x.wayAt(0, 5, 3), 6);
        Check.none("wayAt(0, 5, -1)", x, x.wayAt(0, 5, -1), 6);
        Check.none("wayAt(0, 6, 0)", x, x.wayAt(0, 6, 0), 1);
        Check.none("wayAt(2, 5, 0)", x, x.wayAt(2, 5, 0), 1);
        Check.well("far(0, 0): he is there", x, x.far(0, 0), 0);
        Check.none("wayAt(0, 0, 0)", x, x.wayAt(0, 0, 0), 6);
        Check.none("far(0, 6)", x, x.far(0, 6), 1);
        Check.none("far(2, 0)", x, x.far(2, 0), 1);
        Check.none("far(0, 4): it does not BEAR him", x, x.far(0, 4), 6);
        x.melt(2);
        Check.none("far(0, 5): no WAY for v", x, x.far(0, 5), 6);
        Check.none("wayAt(0, 5, 0): no WAY for v", x, x.wayAt(0, 5, 0), 6);
        Check.well("far(1, 5): w goes by c and d", x, x.far(1, 5), 3);
        Check.well("wayAt(1, 5, 0)", x, x.wayAt(1, 5, 0), 3);
        // Where he is need not BEAR him.
        x.weigh(1, 40);
        x.hew(3, 0, false);
        Check.none("far(1, 3)", x, x.far(1, 3), 6);
    }

    private static void firstOfShortest() {
        // From 0 to 5 by 1-4 or 2-3: the first CELL decides, not the second.
        GooseIce x = Check.on("shore a;shore b;shore c;shore d;shore e;shore f;shore g;way a b;way b e;way e f;way a c;"
            + "way c d;way d f;way a g;walker w weighs 1 at a;");
        int[] want = {1, 4, 5};
        for (int k = 0; k < 3; k++) {
            Check.well("wayAt(0, 5, " + k + ")", x, x.wayAt(0, 5, k), want[k]);
            Check.well("surestAt(0, 5, " + k + ")", x, x.surestAt(0, 5, k), want[k]);
        }
        x.hew(6, 5, true);
        Check.well("a shorter one by a higher CELL", x, x.wayAt(0, 5, 0), 6);
        Check.well("far(0, 5)", x, x.far(0, 5), 2);
    }

    private static void longWays() {
        StringBuilder b = new StringBuilder();
        for (char c = 'a'; c <= 'j'; c++) {
            b.append("shore ").append(c).append(';');
        }
        for (char c = 'a'; c < 'j'; c++) {
            b.append("way ").append(c).append(' ').append((char) (c + 1)).append(';');
        }
        GooseIce x = Check.on(b + "walker v weighs 1 at a;");
        Check.well("far along ten CELLS", x, x.far(0, 9), 9);
        for (int k = 0; k < 9; k++) {
            Check.well("wayAt(0, 9, " + k + ")", x, x.wayAt(0, 9, k), k + 1);
        }
        x.hew(0, 1, false);
        Check.none("far along nine CELLS to nobody", x, x.far(0, 9), 6);
        Check.none("surest along nine CELLS to nobody", x, x.surest(0, 9), 6);
    }

    private static void surest() {
        GooseIce x = two();
        // v by a, b: MARGINS 2 and 4; by c, d: 22 and -1.
        Check.well("surest(0, 5)", x, x.surest(0, 5), 2);
        Check.well("surestFar(0, 5)", x, x.surestFar(0, 5), 3);
        Check.well("surestAt(0, 5, 0)", x, x.surestAt(0, 5, 0), 1);
        Check.none("surestAt(0, 5, 3)", x, x.surestAt(0, 5, 3), 6);
        Check.none("surestAt(0, 5, -1)", x, x.surestAt(0, 5, -1), 6);
        // To d it is better to go round by t: -1 in both cases, so the shorter one.
        Check.well("surest(0, 4): -1", x, x.surest(0, 4), -1);
        Check.well("surestFar(0, 4)", x, x.surestFar(0, 4), 2);
        x.melt(1);
        Check.well("surest(0, 5) by d", x, x.surest(0, 5), -1);
        Check.well("surestAt(0, 5, 0) by c", x, x.surestAt(0, 5, 0), 3);
        x.melt(3);
        x.melt(4);
        Check.well("surest(0, 5) through BROKEN ICE", x, x.surest(0, 5), -6);
        Check.well("surestAt(0, 5, 0)", x, x.surestAt(0, 5, 0), 1);
        Check.none("surest(0, 0): he is there", x, x.surest(0, 0), 1);
        Check.none("surestFar(0, 0)", x, x.surestFar(0, 0), 1);
        Check.none("surestAt(0, 0, 0)", x, x.surestAt(0, 0, 0), 1);
        Check.none("surest(2, 5)", x, x.surest(2, 5), 1);
        Check.none("surest(0, 6)", x, x.surest(0, 6), 1);
        x.hew(0, 1, false);
        x.hew(0, 3, false);
        Check.none("surest without a way", x, x.surest(0, 5), 6);
        Check.none("surestFar without a way", x, x.surestFar(0, 5), 6);
        Check.none("surestAt without a way", x, x.surestAt(0, 5, 0), 6);
        GooseIce y = Check.on("shore s;ice a bears 20;ice b bears 20;ice c bears 9;shore t;way s c;way c t;way s a;"
            + "way a b;way b t;walker v weighs 1 at s;");
        Check.well("surest goes the longer way", y, y.surest(0, 4), 17);
        Check.well("surestFar", y, y.surestFar(0, 4), 3);
        Check.well("far", y, y.far(0, 4), 2);
    }

    private static void reach() {
        GooseIce x = two();
        Check.well("reach(0): all but d", x, x.reach(0), 63 - 16);
        Check.well("reach(1)", x, x.reach(1), 63);
        Check.none("reach(2)", x, x.reach(2), 1);
        Check.none("reach(-1)", x, x.reach(-1), 1);
        x.melt(1);
        x.melt(3);
        Check.well("reach(0): where he is, too", x, x.reach(0), 1);
    }

    private static void cuts() {
        GooseIce x = two();
        Check.well("cut(1, 5)", x, x.cut(1, 5), 2);
        Check.well("cutSet(1, 5): a and c, 2 and 8", x, x.cutSet(1, 5), 10);
        Check.well("cut(0, 5): v has one way alone", x, x.cut(0, 5), 1);
        Check.well("cutSet(0, 5)", x, x.cutSet(0, 5), 2);
        Check.none("cut(0, 1): next to him", x, x.cut(0, 1), 6);
        Check.none("cutSet(0, 1): next to him", x, x.cutSet(0, 1), 6);
        Check.none("cut(0, 0): he is there", x, x.cut(0, 0), 1);
        Check.none("cutSet(0, 0): he is there", x, x.cutSet(0, 0), 1);
        Check.none("cut(2, 5)", x, x.cut(2, 5), 1);
        Check.none("cut(0, 6)", x, x.cut(0, 6), 1);
        Check.well("cut(0, 4): he has no WAY anyway", x, x.cut(0, 4), 0);
        Check.well("cutSet(0, 4)", x, x.cutSet(0, 4), 0);
        Check.well("cutSet(1, 2): not that CELL", x, x.cutSet(1, 2), 10);
        GooseIce y = Check.on("shore s;shore m;shore t;ice a bears 9;way s m;way m t;way s a;way a t;"
            + "walker v weighs 1 at s;");
        Check.none("cut: a SHORE can't be of it", y, y.cut(0, 2), 6);
        Check.none("cutSet: a SHORE can't be of it", y, y.cutSet(0, 2), 6);
    }

    private static void heaviest() {
        GooseIce x = two();
        Check.none("heaviest(2)", x, x.heaviest(2), 1);
        Check.none("heaviest without a ROUTE", x, x.heaviest(0), 6);
        x.sendTo(0, 5);
        Check.well("heaviest(0)", x, x.heaviest(0), 8);
        x.thaw(9);
        Check.well("heaviest(0): 0 at least", x, x.heaviest(0), 0);
        x.frost(19);
        x.step(1);
        Check.well("heaviest(0) of what is still ahead", x, x.heaviest(0), 12 - 9 + 19 - 2);
        x.step(1);
        Check.none("heaviest of SHORES alone", x, x.heaviest(0), 6);
        GooseIce y = two();
        Check.tray(y, 0, 1);
        y.send(0, 0, 1);
        y.send(1, 0, 1);
        y.step(1);
        y.rescue(0);
        Check.none("heaviest(0) of one who was WET", y, y.heaviest(0), 6);
    }

    private static void weakest() {
        GooseIce x = two();
        Check.well("weakest()", x, x.weakest(), 4);
        x.melt(2);
        Check.well("weakest(): BROKEN ICE", x, x.weakest(), 2);
        GooseIce y = Check.on("shore s;ice a bears 5;ice b bears 5;");
        Check.well("weakest(): the first of several", y, y.weakest(), 1);
        GooseIce z = Check.on("shore s;");
        Check.none("weakest() without ICE", z, z.weakest(), 6);
    }

    private static void tooHeavy() {
        GooseIce x = two();
        Check.well("tooHeavy(4)", x, x.tooHeavy(4), 1);
        Check.well("tooHeavy(1)", x, x.tooHeavy(1), 0);
        Check.well("tooHeavy(0) of a SHORE", x, x.tooHeavy(0), 0);
        Check.none("tooHeavy(6)", x, x.tooHeavy(6), 1);
        Check.none("tooHeavy(-1)", x, x.tooHeavy(-1), 1);
        x.sendTo(1, 1);
        x.step(1);
        Check.well("tooHeavy(1): v, not w who is there", x, x.tooHeavy(1), 1);
        x.melt(1);
        Check.well("tooHeavy(1): w is WET", x, x.tooHeavy(1), 1);
        x.rescue(1);
        Check.well("tooHeavy(1) of BROKEN ICE", x, x.tooHeavy(1), 3);
    }

    private static void ready() {
        GooseIce x = Check.on("shore s;ice a bears 20;way s a;worse 3;hour 4;better 1;"
            + "walker v weighs 1 at s;walker w weighs 1 at s;");
        Check.none("ready of a SHORE", x, x.ready(0, 1), 1);
        Check.none("ready(1, -1)", x, x.ready(1, -1), 1);
        Check.none("ready(1, 1000)", x, x.ready(1, 1000), 1);
        Check.none("ready(2, 1)", x, x.ready(2, 1), 1);
        Check.well("ready(1, 20)", x, x.ready(1, 20), 0);
        Check.none("ready(1, 21)", x, x.ready(1, 21), 6);
        Check.none("ready(1, 999)", x, x.ready(1, 999), 6);
        x.sendTo(0, 1);
        x.step(1);
        x.sendTo(1, 1);
        x.step(1);
        // STEP 2, STRENGTH 14; the first is due in STEP 5: 18; the second in STEP 6: 22.
        Check.well("ready(1, 14)", x, x.ready(1, 14), 0);
        Check.well("ready(1, 15)", x, x.ready(1, 15), 3);
        Check.well("ready(1, 18)", x, x.ready(1, 18), 3);
        Check.well("ready(1, 19)", x, x.ready(1, 19), 4);
        Check.well("ready(1, 22)", x, x.ready(1, 22), 4);
        Check.none("ready(1, 23)", x, x.ready(1, 23), 6);
        Check.well("told(5) stays", x, x.told(5), 2);
        x.melt(1);
        Check.none("ready of BROKEN ICE", x, x.ready(1, 0), 6);
        GooseIce y = Check.on("shore s;ice a bears 20;way s a;hour 20;walker v weighs 1 at s;");
        y.sendTo(0, 1);
        y.step(1);
        Check.well("ready in 20 STEPS", y, y.ready(1, 21), 20);
        GooseIce z = Check.on("ice a bears 20;shore s;way s a;hour 1;walker v weighs 1 at s;");
        z.sendTo(0, 0);
        z.step(1);
        Check.well("ready with an HOUR of 1: now", z, z.ready(0, 18), 0);
        Check.well("ready with an HOUR of 1: in the next STEP", z, z.ready(0, 21), 1);
    }
}
