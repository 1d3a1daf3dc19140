/** Promises 30 to 43 at the bounds that the document names: MARGIN, WAY, SUREST, CUT, and what else is asked of ICE. */
public final class WayEdgesTest {
    public static void main(String[] args) {
        bearsFromZero();
        marginBounds();
        marginOfWhoIsThere();
        farBounds();
        whereHeIs();
        firstCells();
        surestBounds();
        surestOfSeveral();
        reachBounds();
        cutBounds();
        cutOfSeveral();
        cutNextToHim();
        heaviestBounds();
        weakestBounds();
        tooHeavyBounds();
        readyBounds();
        readyIsFirst();
        Check.end();
    }

    // ---- promises 30, 31

    private static void bearsFromZero() {
        GooseIce x = Check.on("ice a bears 9;shore s;way s a;walker v weighs 7 at s;walker w weighs 8 at s;");
        Check.well("margin(0, 0): just 0", x, x.margin(0, 0), 0);
        Check.well("bears(0, 0): 0 at least", x, x.bears(0, 0), 1);
        Check.well("margin(1, 0): -1, and STATUS 0", x, x.margin(1, 0), -1);
        Check.well("bears(1, 0)", x, x.bears(1, 0), 0);
        Check.well("bears(1, 1) of a SHORE", x, x.bears(1, 1), 1);
        Check.well("tooHeavy(0)", x, x.tooHeavy(0), 2);
        Check.well("far(0, 0)", x, x.far(0, 0), 1);
        Check.none("far(1, 0)", x, x.far(1, 0), 6);
        Check.well("reach(0)", x, x.reach(0), 3);
        Check.well("reach(1)", x, x.reach(1), 2);
    }

    private static void marginBounds() {
        StringBuilder men = new StringBuilder();
        for (char c = 'h'; c <= 'o'; c++) {
            men.append("walker ").append(c).append(" weighs 99 at s;");
        }
        // All eight in a CELL: 0 less 7 times 99 less 99.
        GooseIce x = Check.on("ice a bears 200;shore s;way s a;worse 0;better 0;" + men);
        for (int k = 0; k < 39; k++) {
            x.frost(20);
        }
        for (int w = 0; w < 8; w++) {
            x.sendTo(w, 0);
        }
        x.step(1);
        Check.well("ice(0, 3): all eight", x, x.ice(0, 3), 792);
        Check.well("margin(7, 0)", x, x.margin(7, 0), 980 - 792);
        for (int k = 0; k < 49; k++) {
            x.thaw(20);
        }
        Check.well("margin(7, 0) of what BEARS 0", x, x.margin(7, 0), -792);
        Check.well("margin(7, 1) of a SHORE", x, x.margin(7, 1), 999);
        Check.well("tooHeavy(0): all", x, x.tooHeavy(0), 255);
        GooseIce y = Check.on("ice a bears 200;shore s;worse 0;walker v weighs 1 at s;");
        for (int k = 0; k < 40; k++) {
            y.frost(20);
        }
        Check.well("margin(0, 0) of 999", y, y.margin(0, 0), 998);
        // STRENGTH as if one more came is 0 at least, too.
        GooseIce z = Check.on("ice a bears 19;shore s;worse 20;walker v weighs 1 at s;");
        Check.well("margin(0, 0) of 19 less 20", z, z.margin(0, 0), -1);
        z.frost(1);
        Check.well("margin(0, 0) of 20 less 20", z, z.margin(0, 0), -1);
        z.frost(1);
        Check.well("margin(0, 0) of 21 less 20", z, z.margin(0, 0), 0);
        z.melt(0);
        Check.well("margin(0, 0) of BROKEN ICE", z, z.margin(0, 0), -1);
        Check.well("bears(0, 0) of BROKEN ICE", z, z.bears(0, 0), 0);
    }

    private static void marginOfWhoIsThere() {
        // v is in a himself: as if he came once more, without his own LOAD.
        GooseIce x = Check.on("ice a bears 20;ice b bears 20;shore s;way s a;beside a b;walker v weighs 5 at s;"
            + "walker w weighs 3 at s;");
        x.sendTo(0, 0);
        x.step(1);
        Check.well("margin(0, 0)", x, x.margin(0, 0), 20 - 4 - 5);
        Check.well("margin(0, 1): his own LOAD from BESIDE is none", x, x.margin(0, 1), 20 - 2 - 5);
        Check.well("margin(1, 0)", x, x.margin(1, 0), 20 - 4 - 5 - 3);
        Check.well("margin(1, 1)", x, x.margin(1, 1), 20 - 2 - 5 - 3);
        x.melt(0);
        Check.well("margin(1, 1): a WET one is no LOAD", x, x.margin(1, 1), 20 - 2 - 3);
        Check.well("margin(0, 1) of a WET one", x, x.margin(0, 1), 20 - 2 - 5);
        Check.well("bears(0, 1) of a WET one", x, x.bears(0, 1), 1);
    }

    // ---- promises 32, 33

    private static String rowOfTen(String kinds) {
        StringBuilder b = new StringBuilder();
        for (int k = 0; k < 10; k++) {
            char name = (char) ('a' + k);
            b.append(kinds.charAt(k) == 's' ? "shore " + name + ";" : "ice " + name + " bears 9;");
        }
        for (int k = 0; k < 9; k++) {
            b.append("way ").append((char) ('a' + k)).append(' ').append((char) ('b' + k)).append(';');
        }
        return b.toString();
    }

    private static void farBounds() {
        GooseIce x = Check.on(rowOfTen("siiiiiiiis") + "walker v weighs 7 at a;walker w weighs 8 at j;");
        Check.well("far(0, 9): nine STEPS", x, x.far(0, 9), 9);
        Check.well("wayAt(0, 9, 8)", x, x.wayAt(0, 9, 8), 9);
        Check.none("wayAt(0, 9, 9)", x, x.wayAt(0, 9, 9), 6);
        Check.well("far(0, 0)", x, x.far(0, 0), 0);
        Check.none("wayAt(0, 0, 0): no such", x, x.wayAt(0, 0, 0), 6);
        Check.none("far(1, 8)", x, x.far(1, 8), 6);
        Check.well("sendTo(0, 9)", x, x.sendTo(0, 9), 9);
        Check.well("routeAt(0, 8)", x, x.routeAt(0, 8), 9);
        Check.well("surestFar(1, 0)", x, x.surestFar(1, 0), 9);
        Check.well("surestAt(1, 0, 8)", x, x.surestAt(1, 0, 8), 0);
        Check.none("surestAt(1, 0, 9)", x, x.surestAt(1, 0, 9), 6);
        Check.well("surest(1, 0)", x, x.surest(1, 0), -1);
        x.melt(5);
        Check.none("far(0, 9): BROKEN in the middle", x, x.far(0, 9), 6);
        Check.none("far(0, 5): BROKEN at the end", x, x.far(0, 5), 6);
        Check.well("far(0, 4)", x, x.far(0, 4), 4);
        Check.well("reach(0)", x, x.reach(0), 31);
    }

    private static void whereHeIs() {
        // v stands on ICE that would not BEAR him now: he may leave it all the same.
        GooseIce x = Check.on("shore s;ice a bears 9;ice b bears 200;shore t;way s a;way a b;way b t;"
            + "walker v weighs 5 at s;");
        x.sendTo(0, 1);
        x.step(1);
        x.thaw(9);
        Check.well("bears(0, 1)", x, x.bears(0, 1), 0);
        Check.well("far(0, 1): he is there", x, x.far(0, 1), 0);
        Check.well("far(0, 3)", x, x.far(0, 3), 2);
        Check.well("reach(0): where he is, too", x, x.reach(0), 15);
        Check.well("cutSet(0, 3): not where he is", x, x.cutSet(0, 3), 4);
        Check.well("surest(0, 3): behind where he is", x, x.surest(0, 3), 200 - 9 - 2 - 5);
        x.melt(1);
        Check.well("far(0, 3) of a WET one", x, x.far(0, 3), 2);
        Check.well("far(0, 1) in BROKEN ICE", x, x.far(0, 1), 0);
        Check.well("reach(0) of a WET one", x, x.reach(0), 15);
    }

    private static void firstCells() {
        // From 0 to 5 in three STEPS by 1-4, 2-3 or 3-4: CELL by CELL by numbers.
        GooseIce x = Check.on("shore a;ice b bears 9;ice c bears 9;ice d bears 9;ice e bears 9;shore f;way a b;way b e;"
            + "way e f;way a c;way c d;way d f;way a d;way d e;walker v weighs 7 at a;");
        x.hew(0, 3, false);
        int[] want = {1, 4, 5};
        for (int k = 0; k < 3; k++) {
            Check.well("wayAt(0, 5, " + k + ")", x, x.wayAt(0, 5, k), want[k]);
        }
        x.melt(1);
        int[] then = {2, 3, 5};
        for (int k = 0; k < 3; k++) {
            Check.well("wayAt(0, 5, " + k + ") without b", x, x.wayAt(0, 5, k), then[k]);
        }
        x.hew(0, 3, true);
        Check.well("far(0, 5): the fewest STEPS ahead of numbers", x, x.far(0, 5), 2);
        Check.well("wayAt(0, 5, 0)", x, x.wayAt(0, 5, 0), 3);
        // The same first CELL, two second ones.
        GooseIce y = Check.on("shore a;shore b;shore c;shore d;shore e;way a e;way e c;way e b;way c d;way b d;"
            + "walker v weighs 1 at a;");
        Check.well("wayAt(0, 3, 1)", y, y.wayAt(0, 3, 1), 1);
    }

    // ---- promises 34 to 37

    private static void surestBounds() {
        GooseIce x = Check.on("shore s;shore t;shore u;ice a bears 9;way s t;way t u;way s a;way a u;"
            + "walker v weighs 1 at s;");
        Check.well("surest(0, 1) by SHORES alone", x, x.surest(0, 1), 999);
        Check.well("surest(0, 2) by SHORES alone", x, x.surest(0, 2), 999);
        Check.well("surestFar(0, 2)", x, x.surestFar(0, 2), 2);
        Check.well("surestAt(0, 2, 0)", x, x.surestAt(0, 2, 0), 1);
        Check.well("surest(0, 3) to ICE", x, x.surest(0, 3), 6);
        Check.well("surestFar(0, 3)", x, x.surestFar(0, 3), 1);
        x.weigh(0, 8);
        Check.well("surest(0, 3): -1, and STATUS 0", x, x.surest(0, 3), -1);
        x.melt(3);
        Check.well("surest(0, 3) into BROKEN ICE", x, x.surest(0, 3), -8);
        x.hew(0, 1, false);
        Check.well("surest(0, 2): by WAYS, whether they BEAR him or not", x, x.surest(0, 2), -8);
        x.hew(0, 3, false);
        Check.none("surest(0, 2): no way at all", x, x.surest(0, 2), 6);
        Check.none("surestAt(0, 2, 0): no way at all", x, x.surestAt(0, 2, 0), 6);
    }

    private static void surestOfSeveral() {
        // Least MARGINS for v (1): by a 4; by b and c 7 and 7; by d and e 7 and 9: the last two are alike.
        GooseIce x = Check.on("ice d bears 10;ice b bears 10;shore s;ice a bears 7;ice c bears 10;ice e bears 12;"
            + "shore t;"
            + "way s a;way a t;way s b;way b c;way c t;way s d;way d e;way e t;walker v weighs 1 at s;");
        Check.well("surest(0, 6)", x, x.surest(0, 6), 7);
        Check.well("surestFar(0, 6)", x, x.surestFar(0, 6), 3);
        Check.well("surestAt(0, 6, 0): the first by numbers", x, x.surestAt(0, 6, 0), 0);
        Check.well("surestAt(0, 6, 1)", x, x.surestAt(0, 6, 1), 5);
        Check.well("surestAt(0, 6, 2)", x, x.surestAt(0, 6, 2), 6);
        Check.well("far(0, 6): WAY is the shorter one", x, x.far(0, 6), 2);
        // The least MARGIN may be that of any CELL: of the first, of the last.
        GooseIce y = Check.on("ice a bears 5;shore s;ice b bears 9;shore t;ice c bears 4;way s a;way a b;way b t;"
            + "way s c;"
            + "way c t;walker v weighs 1 at s;");
        Check.well("surest(0, 3): that of CELL 0", y, y.surest(0, 3), 2);
        y.hew(0, 1, false);
        Check.well("surest(0, 3): that of CELL 4", y, y.surest(0, 3), 1);
        x.hew(1, 6, true);
        Check.well("surestFar(0, 6): the fewest STEPS of such", x, x.surestFar(0, 6), 2);
        Check.well("surestAt(0, 6, 0)", x, x.surestAt(0, 6, 0), 1);
    }

    private static void reachBounds() {
        GooseIce x = Check.on(rowOfTen("ssssssssss") + "walker v weighs 99 at e;");
        Check.well("reach(0): all ten", x, x.reach(0), 1023);
        x.hew(4, 5, false);
        Check.well("reach(0)", x, x.reach(0), 31);
        x.hew(3, 4, false);
        Check.well("reach(0): where he is alone", x, x.reach(0), 16);
        // ICE that does not BEAR him is no part of it, nor what lies behind it.
        GooseIce y = Check.on(rowOfTen("siiiiiiiis") + "walker v weighs 8 at a;");
        Check.well("reach(0)", y, y.reach(0), 1);
        y.weigh(0, 7);
        Check.well("reach(0)", y, y.reach(0), 1023);
        y.melt(8);
        Check.well("reach(0): not the SHORE behind BROKEN ICE", y, y.reach(0), 255);
    }

    // ---- promises 38, 39

    private static String abreast(int many) {
        StringBuilder b = new StringBuilder("shore s;shore t;");
        for (int k = 0; k < many; k++) {
            char name = (char) ('a' + k);
            b.append("ice ").append(name).append(" bears 9;way s ").append(name).append(";"
                + "way ").append(name).append(" t;");
        }
        return b.toString();
    }

    private static void cutBounds() {
        for (int many = 0; many <= 8; many++) {
            GooseIce x = Check.on(abreast(many) + "walker v weighs 7 at s;");
            Check.well("cut(0, 1) of " + many, x, x.cut(0, 1), many);
            Check.well("cutSet(0, 1) of " + many, x, x.cutSet(0, 1), ((1 << many) - 1) << 2);
        }
        GooseIce y = Check.on(abreast(8) + "walker v weighs 7 at s;");
        y.thaw(1);
        Check.well("cut(0, 1): none BEARS him anyway", y, y.cut(0, 1), 0);
        y.frost(1);
        y.melt(9);
        Check.well("cutSet(0, 1): without BROKEN ICE", y, y.cutSet(0, 1), 508);
    }

    private static void cutOfSeveral() {
        // s - c - b - a - t: one of three, the least as a number, wherever it lies.
        GooseIce x = Check.on("ice a bears 9;ice b bears 9;ice c bears 9;shore s;shore t;way s c;way c b;way b a;"
            + "way a t;"
            + "walker v weighs 1 at s;");
        Check.well("cut(0, 4)", x, x.cut(0, 4), 1);
        Check.well("cutSet(0, 4)", x, x.cutSet(0, 4), 1);
        Check.well("cutSet(0, 0): not that CELL", x, x.cutSet(0, 0), 2);
        Check.well("cutSet(0, 1)", x, x.cutSet(0, 1), 4);
        // By b and d, and by e and c: of the four sets of two that of b and c is the least.
        GooseIce y = Check.on("ice a bears 9;ice b bears 9;ice c bears 9;ice d bears 9;ice e bears 9;shore s;shore t;"
            + "way s b;way s e;way b d;way e c;way d t;way c t;walker v weighs 1 at s;");
        Check.well("cut(0, 6)", y, y.cut(0, 6), 2);
        Check.well("cutSet(0, 6): b and c, 2 and 4", y, y.cutSet(0, 6), 6);
        y.hew(5, 0, true);
        y.hew(0, 1, true);
        Check.well("cutSet(0, 6): a is no part of it", y, y.cutSet(0, 6), 6);
        // One that all must cross with a high number, ahead of two with low ones.
        GooseIce z = Check.on("ice a bears 9;ice b bears 9;shore s;shore t;ice e bears 9;way s a;way s b;way a e;"
            + "way b e;"
            + "way e t;walker v weighs 1 at s;");
        Check.well("cut(0, 3)", z, z.cut(0, 3), 1);
        Check.well("cutSet(0, 3): the fewest", z, z.cutSet(0, 3), 16);
    }

    private static void cutNextToHim() {
        GooseIce x = Check.on("shore s;ice a bears 9;shore t;ice b bears 0;way s a;way a t;way s b;"
            + "walker v weighs 1 at s;");
        Check.none("cut(0, 1): next to him", x, x.cut(0, 1), 6);
        Check.none("cut(0, 3): next to him, though it does not BEAR him", x, x.cut(0, 3), 6);
        Check.none("cutSet(0, 3)", x, x.cutSet(0, 3), 6);
        Check.well("cut(0, 2)", x, x.cut(0, 2), 1);
        x.hew(0, 2, true);
        Check.none("cut(0, 2): next to him now", x, x.cut(0, 2), 6);
        // By a SHORE in the middle: it can't be cut.
        GooseIce y = Check.on("shore s;shore m;shore t;way s m;way m t;walker v weighs 1 at s;");
        Check.none("cut(0, 2) by SHORES", y, y.cut(0, 2), 6);
        y.hew(0, 1, false);
        Check.well("cut(0, 2) without any way", y, y.cut(0, 2), 0);
        Check.well("cutSet(0, 2) without any way", y, y.cutSet(0, 2), 0);
    }

    // ---- promises 40 to 43

    private static void heaviestBounds() {
        GooseIce x = Check.on("shore s;ice a bears 9;ice b bears 30;shore t;way s a;way a b;way b t;way s t;"
            + "walker v weighs 5 at s;"
            + "walker w weighs 3 at t;");
        Check.tray(x, 0, 1, 2, 3);
        x.send(0, 0, 3);
        Check.well("heaviest(0): 9 - 2", x, x.heaviest(0), 7);
        x.thaw(7);
        Check.well("heaviest(0): just 0", x, x.heaviest(0), 0);
        x.thaw(1);
        Check.well("heaviest(0): 0 at least", x, x.heaviest(0), 0);
        x.frost(8);
        x.sendTo(1, 2);
        x.step(1);
        // v is in a, w in b: b is still ahead of v.
        Check.well("heaviest(0): 30 - 4 - 3", x, x.heaviest(0), 23);
        x.weigh(1, 26);
        Check.well("heaviest(0): 30 - 4 - 26", x, x.heaviest(0), 0);
        x.weigh(1, 27);
        Check.well("heaviest(0): 0 at least, with others", x, x.heaviest(0), 0);
        x.weigh(1, 99);
        Check.well("heaviest(0): 0 at least, with very heavy ones", x, x.heaviest(0), 0);
        x.melt(2);
        Check.well("heaviest(0) into BROKEN ICE", x, x.heaviest(0), 0);
        x.halt(0);
        Check.none("heaviest(0): no ROUTE", x, x.heaviest(0), 6);
        Check.tray(x, 0, 0, 3);
        x.send(0, 0, 2);
        Check.none("heaviest(0): SHORES alone", x, x.heaviest(0), 6);
    }

    private static void weakestBounds() {
        GooseIce x = Check.on("ice a bears 9;ice b bears 8;shore s;ice c bears 8;way s b;way s a;"
            + "walker v weighs 1 at s;");
        Check.well("weakest(): the first of two", x, x.weakest(), 1);
        x.sendTo(0, 0);
        x.step(1);
        Check.well("weakest(): STRENGTH, not what it BEARS", x, x.weakest(), 0);
        x.melt(3);
        Check.well("weakest(): BROKEN ICE has 0", x, x.weakest(), 3);
        GooseIce y = Check.on("shore s;shore t;ice a bears 200;");
        Check.well("weakest() of one", y, y.weakest(), 2);
        GooseIce z = Check.on("shore s;shore t;");
        Check.none("weakest() of none", z, z.weakest(), 6);
    }

    private static void tooHeavyBounds() {
        GooseIce x = Check.on("ice a bears 9;shore s;way s a;walker u weighs 6 at s;walker v weighs 7 at s;"
            + "walker w weighs 8 at s;");
        Check.well("tooHeavy(0): above 7", x, x.tooHeavy(0), 4);
        Check.well("tooHeavy(1) of a SHORE", x, x.tooHeavy(1), 0);
        x.thaw(1);
        Check.well("tooHeavy(0): above 6", x, x.tooHeavy(0), 6);
        x.frost(20);
        x.sendTo(2, 0);
        x.step(1);
        x.melt(0);
        Check.well("tooHeavy(0): all who are not WET", x, x.tooHeavy(0), 3);
        GooseIce y = Check.on("ice a bears 0;shore s;");
        Check.well("tooHeavy(0) of nobody", y, y.tooHeavy(0), 0);
    }

    private static void readyBounds() {
        GooseIce x = Check.on("ice a bears 20;shore s;way s a;hour 20;worse 20;better 20;walker v weighs 1 at s;");
        Check.well("ready(0, 0)", x, x.ready(0, 0), 0);
        Check.well("ready(0, 20): now", x, x.ready(0, 20), 0);
        Check.none("ready(0, 21): never", x, x.ready(0, 21), 6);
        Check.none("ready(0, 999)", x, x.ready(0, 999), 6);
        x.frost(1);
        x.sendTo(0, 0);
        x.step(1);
        Check.well("ready(0, 0) of STRENGTH 1", x, x.ready(0, 0), 0);
        Check.well("ready(0, 1)", x, x.ready(0, 1), 0);
        Check.well("ready(0, 2): in 20", x, x.ready(0, 2), 20);
        Check.well("ready(0, 41): in 20", x, x.ready(0, 41), 20);
        Check.none("ready(0, 42): not in 20", x, x.ready(0, 42), 6);
        x.thaw(5);
        Check.well("ready(0, 0) of STRENGTH 0", x, x.ready(0, 0), 0);
        Check.well("ready(0, 1) of STRENGTH 0", x, x.ready(0, 1), 20);
        x.sendTo(0, 1);
        x.step(19);
        Check.well("ready(0, 36): in the next STEP", x, x.ready(0, 36), 1);
        x.step(1);
        Check.well("ready(0, 36): now", x, x.ready(0, 36), 0);
        x.melt(0);
        Check.none("ready(0, 0): BROKEN, never", x, x.ready(0, 0), 6);
        x.frost(1);
        Check.well("ready(0, 1): BROKEN no more", x, x.ready(0, 1), 0);
        GooseIce y = Check.on("ice a bears 200;shore s;way s a;hour 1;worse 0;better 20;walker v weighs 1 at s;");
        for (int k = 0; k < 39; k++) {
            y.frost(20);
        }
        y.sendTo(0, 0);
        y.step(1);
        Check.well("ready(0, 999): 999 at most", y, y.ready(0, 999), 1);
        y.step(1);
        Check.well("ready(0, 999): now", y, y.ready(0, 999), 0);
    }

    private static void readyIsFirst() {
        // Three come in STEPS 1, 2 and 3; HOUR 3: they are due in STEPS 4, 5 and 6.
        GooseIce x = Check.on("ice a bears 30;shore s;way s a;hour 3;worse 2;better 1;walker u weighs 1 at s;"
            + "walker v weighs 1 at s;walker w weighs 1 at s;");
        for (int w = 0; w < 3; w++) {
            x.sendTo(w, 0);
            x.step(1);
        }
        Check.well("ice(0, 1)", x, x.ice(0, 1), 24);
        int[] want = {0, 1, 1, 1, 2, 2, 2, 3, 3, 3};
        for (int k = 0; k < want.length; k++) {
            Check.well("ready(0, " + (24 + k) + ")", x, x.ready(0, 24 + k), want[k]);
        }
        Check.none("ready(0, 34)", x, x.ready(0, 34), 6);
        Check.well("told(5): nothing changed", x, x.told(5), 3);
        Check.well("ice(0, 2): nothing changed", x, x.ice(0, 2), 3);
    }
}
