/** Promises 13 to 29 at the bounds that the document names: ICE, WALKERS, ROUTES, STEPS, FROST, THAW, RESCUE, MELT. */
public final class LakeEdgesTest {
    public static void main(String[] args) {
        fullSets();
        lastHour();
        strengthIsNoLess();
        loadIsBeside();
        mostLoad();
        routesOfTwenty();
        numbersOfTrays();
        sendAlongShores();
        halts();
        twentySteps();
        lastSteps();
        breaksAbove();
        breaksByWhatIsThen();
        dueAheadOfBreaking();
        brokenIsForgotten();
        brokenIsForgottenBesideOthers();
        wetOnes();
        frostBounds();
        thawBounds();
        firstShore();
        firstIce();
        melts();
        weights();
        hews();
        Check.end();
    }

    private static String eight(String at) {
        StringBuilder b = new StringBuilder();
        for (char c = 'a'; c <= 'h'; c++) {
            b.append("walker w").append(c).append(" weighs 99 at ").append(at).append(';');
        }
        return b.toString();
    }

    // ---- promises 13 to 19

    private static void fullSets() {
        StringBuilder ice = new StringBuilder("shore s;");
        for (char c = 'a'; c <= 'i'; c++) {
            ice.append("ice ").append(c).append(" bears 0;way s ").append(c).append(';');
        }
        GooseIce x = Check.on(ice + eight("s"));
        Check.well("told(0): ten", x, x.told(0), 10);
        Check.well("told(1): eight", x, x.told(1), 8);
        Check.well("within(0): all", x, x.within(0), 255);
        for (int w = 0; w < 8; w++) {
            Check.tray(x, 0, w + 2);
            Check.well("send to CELL " + (w + 2), x, x.send(w, 0, 1), 1);
        }
        Check.well("told(9): all have a ROUTE", x, x.told(9), 255);
        Check.well("step(1): CELLS 2 to 9 break", x, x.step(1), 1020);
        Check.well("told(7): all but CELL 1", x, x.told(7), 1020);
        Check.well("told(8): all are WET", x, x.told(8), 255);
        Check.well("told(9): none has a ROUTE", x, x.told(9), 0);
        Check.well("melt(1): all are BROKEN", x, x.melt(1), 9);
        Check.well("told(7): all", x, x.told(7), 1022);
        Check.well("within(9)", x, x.within(9), 128);
        Check.well("thaw(1): all nine", x, x.thaw(1), 9);
        Check.well("frost(1): all nine", x, x.frost(1), 9);
        for (int w = 0; w < 8; w++) {
            Check.well("rescue(" + w + ")", x, x.rescue(w), 7 - w);
        }
    }

    private static void lastHour() {
        for (int hour : new int[] {1, 2, 19, 20}) {
            GooseIce x = Check.on("ice a bears 50;shore s;way s a;worse 3;better 7;hour " + hour
                + ";walker v weighs 1 at s;");
            Check.well("sendTo", x, x.sendTo(0, 0), 1);
            x.step(1);
            for (int k = 1; k < hour; k++) {
                x.step(1);
            }
            Check.well("ice(0, 2) in the last STEP of HOUR " + hour, x, x.ice(0, 2), 1);
            Check.well("ice(0, 1) in the last STEP of HOUR " + hour, x, x.ice(0, 1), 47);
            Check.well("ice(0, 0) in the last STEP of HOUR " + hour, x, x.ice(0, 0), 50);
            x.step(1);
            Check.well("ice(0, 2) behind HOUR " + hour, x, x.ice(0, 2), 0);
            Check.well("ice(0, 1) behind HOUR " + hour, x, x.ice(0, 1), 57);
            x.step(20);
            Check.well("ice(0, 0): BETTER but once", x, x.ice(0, 0), 57);
        }
        // WORSE 0 and BETTER 0: nothing comes of it.
        GooseIce y = Check.on("shore s;ice a bears 5;way s a;worse 0;better 0;hour 1;walker v weighs 5 at s;");
        y.sendTo(0, 1);
        Check.well("step(20)", y, y.step(20), 0);
        Check.well("ice(1, 0)", y, y.ice(1, 0), 5);
        // Two who come at once, and one who comes again, count each.
        GooseIce z = Check.on("shore s;ice a bears 90;way s a;walker v weighs 1 at s;walker w weighs 1 at s;");
        Check.tray(z, 0, 1, 0, 1);
        z.send(0, 0, 3);
        z.send(1, 0, 1);
        z.step(3);
        Check.well("ice(1, 2): three times", z, z.ice(1, 2), 3);
        Check.well("ice(1, 1)", z, z.ice(1, 1), 84);
        z.step(2);
        Check.well("ice(1, 0): two are due", z, z.ice(1, 0), 92);
        z.step(2);
        Check.well("ice(1, 0): the third is due", z, z.ice(1, 0), 93);
    }

    private static void strengthIsNoLess() {
        GooseIce x = Check.on("shore s;ice a bears 21;way s a;worse 20;walker v weighs 1 at s;");
        x.sendTo(0, 1);
        Check.well("STRENGTH 1 holds WEIGHT 1", x, x.step(1), 0);
        Check.well("ice(1, 1)", x, x.ice(1, 1), 1);
        x.thaw(1);
        Check.well("ice(1, 1): 0", x, x.ice(1, 1), 0);
        x.thaw(1);
        Check.well("ice(1, 1): 0 at least", x, x.ice(1, 1), 0);
        Check.well("ice(1, 0)", x, x.ice(1, 0), 19);
        x.frost(1);
        Check.well("ice(1, 1): 20 less 20", x, x.ice(1, 1), 0);
        x.frost(2);
        Check.well("ice(1, 1)", x, x.ice(1, 1), 2);
    }

    private static void loadIsBeside() {
        // a - b - c are BESIDE each other in a row: what is in c counts in b, not in a.
        GooseIce x = Check.on("shore s;ice a bears 50;ice b bears 50;ice c bears 50;way s c;way s a;beside a b;"
            + "beside b c;"
            + "walker v weighs 7 at s;walker w weighs 5 at s;");
        x.sendTo(0, 3);
        x.step(1);
        Check.well("ice(1, 3): not what is BESIDE that BESIDE it", x, x.ice(1, 3), 0);
        Check.well("ice(2, 3)", x, x.ice(2, 3), 7);
        Check.well("ice(3, 3)", x, x.ice(3, 3), 7);
        x.sendTo(1, 1);
        x.step(1);
        Check.well("ice(1, 3)", x, x.ice(1, 3), 5);
        Check.well("ice(2, 3): both", x, x.ice(2, 3), 12);
        Check.well("ice(3, 3)", x, x.ice(3, 3), 7);
        Check.well("ice(2, 2): nobody CAME INTO it", x, x.ice(2, 2), 0);
        x.melt(3);
        Check.well("ice(2, 3): a WET one is none", x, x.ice(2, 3), 5);
        Check.well("ice(3, 3): a WET one is none", x, x.ice(3, 3), 0);
        x.weigh(1, 99);
        Check.well("ice(2, 3): by the WEIGHT now", x, x.ice(2, 3), 99);
    }

    private static void mostLoad() {
        GooseIce x = Check.on("ice a bears 90;ice b bears 20;shore s;way s a;beside a b;walker v weighs 7 at s;");
        Check.well("ice(0, 4) to begin with", x, x.ice(0, 4), 0);
        x.sendTo(0, 0);
        Check.well("ice(0, 4) ahead of the STEP", x, x.ice(0, 4), 0);
        x.step(1);
        Check.well("ice(0, 4)", x, x.ice(0, 4), 7);
        Check.well("ice(1, 4): BESIDE", x, x.ice(1, 4), 7);
        x.weigh(0, 20);
        Check.well("ice(0, 4): no STEP was over", x, x.ice(0, 4), 7);
        x.step(1);
        Check.well("ice(0, 4)", x, x.ice(0, 4), 20);
        x.weigh(0, 3);
        x.step(1);
        Check.well("ice(0, 4): the most", x, x.ice(0, 4), 20);
        x.weigh(0, 21);
        Check.well("step(1): b breaks under 21, a holds", x, x.step(1), 2);
        Check.well("ice(0, 4)", x, x.ice(0, 4), 21);
        Check.well("ice(1, 4): it did not hold 21", x, x.ice(1, 4), 20);
        x.mark();
        x.weigh(0, 30);
        x.step(1);
        Check.well("ice(0, 4)", x, x.ice(0, 4), 30);
        x.undo();
        Check.well("ice(0, 4) is taken back", x, x.ice(0, 4), 21);
    }

    private static void routesOfTwenty() {
        GooseIce x = Check.on("shore s;shore t;way s t;walker v weighs 1 at s;");
        x.tray(0, 0, 60);
        for (int k = 0; k < 60; k++) {
            x.write(0, k, k < 20 ? 1 - k % 2 : 99);
        }
        Check.none("send(0, 0, 21)", x, x.send(0, 0, 21), 1);
        Check.well("send(0, 0, 20): the first 20 alone", x, x.send(0, 0, 20), 20);
        Check.well("walker(0, 2)", x, x.walker(0, 2), 20);
        Check.well("routeAt(0, 0)", x, x.routeAt(0, 0), 1);
        Check.well("routeAt(0, 19)", x, x.routeAt(0, 19), 0);
        Check.none("routeAt(0, 20)", x, x.routeAt(0, 20), 6);
        x.step(19);
        Check.well("walker(0, 2)", x, x.walker(0, 2), 1);
        Check.well("routeAt(0, 0): the last", x, x.routeAt(0, 0), 0);
        Check.none("routeAt(0, 1)", x, x.routeAt(0, 1), 6);
        Check.well("told(9)", x, x.told(9), 1);
        x.step(1);
        Check.none("routeAt(0, 0): gone", x, x.routeAt(0, 0), 6);
        Check.well("told(9)", x, x.told(9), 0);
        Check.well("walker(0, 1)", x, x.walker(0, 1), 0);
        Check.well("walker(0, 3): 20 STEPS", x, x.walker(0, 3), 20);
        x.step(20);
        Check.well("walker(0, 3): none more", x, x.walker(0, 3), 20);
    }

    // ---- promises 20 to 22

    private static void numbersOfTrays() {
        GooseIce x = Check.on("shore s;shore t;way s t;walker v weighs 1 at s;");
        x.tray(0, 3, 2);
        long[] noCells = {2, -1, 10, 1L << 32, (1L << 32) + 1, Long.MAX_VALUE, Long.MIN_VALUE, Integer.MAX_VALUE};
        for (long v : noCells) {
            x.write(0, 0, v);
            Check.none("send to " + v, x, x.send(0, 0, 1), 5);
            Check.none("queue to " + v, x, x.queue(1, 0, 1), 5);
        }
        x.write(0, 0, 1);
        x.write(0, 1, 2);
        Check.none("send: the second is no CELL", x, x.send(0, 0, 2), 5);
        Check.none("queue: the second is no CELL", x, x.queue(1, 0, 2), 5);
        Check.well("queue: the first n alone", x, x.queue(1, 0, 1), 1);
        Check.well("send: the first n alone", x, x.send(0, 0, 1), 1);
    }

    private static void sendAlongShores() {
        GooseIce x = Check.on("shore s;shore t;shore q;ice a bears 0;way s t;way t a;walker v weighs 9 at s;");
        Check.tray(x, 0, 1, 2);
        Check.none("send: no WAY at the end", x, x.send(0, 0, 2), 7);
        Check.tray(x, 0, 0);
        Check.none("send: where he is has no WAY to itself", x, x.send(0, 0, 1), 7);
        Check.tray(x, 0, 1, 1);
        Check.none("send: one and itself", x, x.send(0, 0, 2), 7);
        Check.tray(x, 0, 1, 3, 1);
        Check.well("send into ICE that does not BEAR him", x, x.send(0, 0, 3), 3);
        Check.well("step(2)", x, x.step(2), 8);
        Check.well("told(8)", x, x.told(8), 1);
    }

    private static void halts() {
        GooseIce x = Check.on("shore s;shore t;way s t;walker v weighs 1 at s;");
        x.tray(0, 0, 20);
        for (int k = 0; k < 20; k++) {
            x.write(0, k, 1 - k % 2);
        }
        x.send(0, 0, 20);
        Check.well("halt(0): 20", x, x.halt(0), 20);
        Check.none("halt(0) again", x, x.halt(0), 7);
        Check.well("send again", x, x.send(0, 0, 1), 1);
        Check.well("halt(0): 1", x, x.halt(0), 1);
        Check.well("sendTo again", x, x.sendTo(0, 1), 1);
        x.step(1);
        Check.none("halt(0): he is over", x, x.halt(0), 7);
    }

    // ---- promise 23

    private static void twentySteps() {
        // v breaks a in the first STEP, w goes there and back and breaks b in the twentieth.
        GooseIce x = Check.on("shore s;ice a bears 0;ice b bears 0;shore t;way s a;way s b;way s t;"
            + "walker v weighs 1 at s;walker w weighs 1 at s;");
        Check.tray(x, 0, 1);
        x.send(0, 0, 1);
        x.tray(1, 0, 20);
        for (int k = 0; k < 20; k++) {
            x.write(1, k, k == 19 ? 2 : k % 2 == 0 ? 3 : 0);
        }
        Check.none("send: t has no WAY to b", x, x.send(1, 1, 20), 7);
        x.hew(3, 2, true);
        Check.well("send along twenty", x, x.send(1, 1, 20), 20);
        Check.well("step(19)", x, x.step(19), 2);
        Check.well("step(1): the twentieth", x, x.step(1), 4);
        GooseIce y = Check.on("shore s;ice a bears 0;ice b bears 0;shore t;way s a;way s b;way s t;"
            + "walker v weighs 1 at s;walker w weighs 1 at s;");
        Check.tray(y, 0, 1);
        Check.tray(y, 1, 3, 0, 2);
        y.send(0, 0, 1);
        y.send(1, 1, 3);
        Check.well("step(20): the set of both", y, y.step(20), 6);
        Check.well("step(20): none more", y, y.step(20), 0);
        Check.well("told(5)", y, y.told(5), 40);
    }

    private static void lastSteps() {
        GooseIce x = Check.on("shore s;shore t;ice a bears 100;way s t;way s a;hour 3;walker v weighs 1 at s;");
        Check.tales(x, "loop 99;step 20;step 20;end;");
        x.live(0);
        x.live(0);
        Check.well("told(5)", x, x.told(5), 7920);
        for (int k = 0; k < 103; k++) {
            x.step(20);
        }
        Check.well("told(5)", x, x.told(5), 9980);
        x.sendTo(0, 2);
        Check.none("step(20): 10,000", x, x.step(20), 4);
        Check.well("step(18)", x, x.step(18), 0);
        Check.well("ice(2, 0): BETTER comes late, too", x, x.ice(2, 0), 101);
        Check.none("step(2): 10,000", x, x.step(2), 4);
        Check.none("step(0): 1 ahead of 4", x, x.step(0), 1);
        Check.well("told(5)", x, x.told(5), 9998);
        x.sendTo(0, 0);
        Check.well("step(1)", x, x.step(1), 0);
        Check.well("told(5)", x, x.told(5), 9999);
        Check.well("walker(0, 1)", x, x.walker(0, 1), 0);
        x.sendTo(0, 1);
        Check.none("step(1): 10,000", x, x.step(1), 4);
        Check.well("walker(0, 1): he stands", x, x.walker(0, 1), 0);
        Check.well("holds() in the last STEP", x, x.holds(), 0);
    }

    private static void breaksAbove() {
        // 9 bears less 2: 7 holds, 8 does not.
        for (int weight = 7; weight <= 8; weight++) {
            GooseIce x = Check.on("ice a bears 9;shore s;way s a;walker v weighs " + weight + " at s;");
            Check.tray(x, 0, 0);
            x.send(0, 0, 1);
            Check.well("step(1) of WEIGHT " + weight, x, x.step(1), weight == 7 ? 0 : 1);
            Check.well("told(8)", x, x.told(8), weight == 7 ? 0 : 1);
        }
        // WEIGHT of all in it and BESIDE: 3 and 4 on 7, then 3 and 5.
        for (int weight = 4; weight <= 5; weight++) {
            GooseIce x = Check.on("ice a bears 7;ice b bears 50;shore s;way s a;way s b;beside a b;worse 0;"
                + "walker v weighs 3 at s;walker w weighs " + weight + " at s;");
            Check.tray(x, 0, 0);
            Check.tray(x, 1, 1);
            x.send(0, 0, 1);
            x.send(1, 1, 1);
            Check.well("step(1) beside WEIGHT " + weight, x, x.step(1), weight == 4 ? 0 : 1);
            Check.well("told(8): who is in it alone", x, x.told(8), weight == 4 ? 0 : 1);
        }
        // Nobody comes: ICE that bears 0 holds a LOAD of 0.
        GooseIce y = Check.on("shore s;ice a bears 0;");
        Check.well("step(20) of an empty LAKE", y, y.step(20), 0);
    }

    private static void breaksByWhatIsThen() {
        // In one STEP v leaves a and w comes: a is asked behind both, 9 - 2 for w, less 2 for v who came ahead of him.
        GooseIce x = Check.on("shore s;ice a bears 9;shore t;way s a;way a t;walker v weighs 5 at s;"
            + "walker w weighs 5 at s;");
        Check.tray(x, 0, 1, 2);
        x.send(0, 0, 2);
        x.step(1);
        x.send(1, 0, 2);
        Check.well("step(1): 5 on 9 - 4", x, x.step(1), 0);
        Check.well("within(1)", x, x.within(1), 2);
        // Two change places: each alone in a CELL behind the STEP.
        GooseIce y = Check.on("ice a bears 20;ice b bears 20;shore s;shore t;way s a;way a b;way b t;worse 0;"
            + "walker v weighs 20 at s;walker w weighs 20 at t;");
        y.sendTo(0, 0);
        y.sendTo(1, 1);
        y.step(1);
        Check.tray(y, 0, 1);
        Check.tray(y, 1, 0);
        y.send(0, 0, 1);
        y.send(1, 1, 1);
        Check.well("step(1): all at once", y, y.step(1), 0);
        Check.well("within(0)", y, y.within(0), 2);
        Check.well("within(1)", y, y.within(1), 1);
        // a breaks, and b, which v loads from there, breaks with it though he is WET then.
        GooseIce z = Check.on("ice a bears 0;ice b bears 4;shore s;way s a;beside a b;walker v weighs 5 at s;");
        Check.tray(z, 0, 0);
        z.send(0, 0, 1);
        Check.well("step(1): both", z, z.step(1), 3);
        Check.well("told(7)", z, z.told(7), 3);
        // In the next STEP he would be no LOAD: b with 5 holds.
        GooseIce q = Check.on("ice a bears 0;ice b bears 5;shore s;way s a;beside a b;walker v weighs 5 at s;");
        Check.tray(q, 0, 0);
        q.send(0, 0, 1);
        Check.well("step(1): a alone", q, q.step(1), 1);
        q.thaw(5);
        Check.well("step(1): WET ones are no LOAD", q, q.step(1), 0);
    }

    private static void dueAheadOfBreaking() {
        // HOUR 2: who came in STEP 1 is due in STEP 3, ahead of the asking, so w is borne then and not a STEP sooner.
        String lake = "shore s;ice a bears 9;shore t;way s a;way a t;hour 2;worse 4;better 1;"
            + "walker v weighs 5 at s;walker w weighs 6 at s;";
        GooseIce x = Check.on(lake);
        Check.tray(x, 0, 1, 2);
        x.send(0, 0, 2);
        x.step(2);
        x.send(1, 0, 2);
        Check.well("step(1): 6 on 10 - 4", x, x.step(1), 0);
        GooseIce y = Check.on(lake);
        Check.tray(y, 0, 1, 2);
        y.send(0, 0, 2);
        y.step(1);
        y.send(1, 0, 2);
        Check.well("step(1): 6 on 9 - 8", y, y.step(1), 2);
        y.frost(7);
        y.step(20);
        Check.well("ice(1, 0): nothing is due of BROKEN ICE", y, y.ice(1, 0), 7);
    }

    private static void brokenIsForgotten() {
        GooseIce x = Check.on("ice a bears 40;shore s;way s a;hour 20;worse 3;better 20;"
            + "walker v weighs 1 at s;walker w weighs 1 at s;");
        x.sendTo(0, 0);
        x.step(1);
        x.sendTo(1, 0);
        x.melt(0);
        Check.well("ice(0, 0)", x, x.ice(0, 0), 0);
        Check.well("ice(0, 1)", x, x.ice(0, 1), 0);
        Check.well("ice(0, 2)", x, x.ice(0, 2), 0);
        Check.well("step(1): BROKEN ICE breaks no more", x, x.step(1), 0);
        Check.well("told(8): w came into it", x, x.told(8), 3);
        Check.well("ice(0, 2): nobody CAME INTO it", x, x.ice(0, 2), 0);
        Check.well("walker(1, 3): it is a STEP all the same", x, x.walker(1, 3), 1);
        Check.well("frost(5)", x, x.frost(5), 1);
        Check.well("ice(0, 1): all 5", x, x.ice(0, 1), 5);
        x.step(20);
        x.step(20);
        Check.well("ice(0, 0): nothing is due", x, x.ice(0, 0), 5);
        Check.well("told(8): they stay", x, x.told(8), 3);
        Check.well("ice(0, 3): no LOAD", x, x.ice(0, 3), 0);
    }

    /** Nothing is due of who came into BROKEN ICE, whatever else is due in that STEP. */
    private static void brokenIsForgottenBesideOthers() {
        for (int hour = 1; hour <= 4; hour++) {
            for (int wait = 0; wait < 4; wait++) {
                GooseIce x = Check.on("ice a bears 50;ice b bears 50;shore s;way s a;way s b;worse 3;better 7;"
                    + "hour " + hour
                    + ";walker v weighs 1 at s;walker w weighs 1 at s;");
                for (int k = 0; k < wait; k++) {
                    x.step(1);
                }
                x.sendTo(0, 0);
                x.sendTo(1, 1);
                x.step(1);
                x.melt(0);
                x.frost(20);
                Check.well("ice(0, 2) of HOUR " + hour, x, x.ice(0, 2), 0);
                x.step(hour);
                Check.well("ice(0, 0) of HOUR " + hour, x, x.ice(0, 0), 20);
                Check.well("ice(0, 1) of HOUR " + hour, x, x.ice(0, 1), 20);
                Check.well("ice(0, 2) of HOUR " + hour, x, x.ice(0, 2), 0);
                Check.well("ice(1, 0) of HOUR " + hour, x, x.ice(1, 0), 77);
            }
        }
    }

    private static void wetOnes() {
        // The ROUTE of who comes into BROKEN ICE ends there.
        GooseIce x = Check.on("shore s;ice a bears 9;ice b bears 9;shore t;way s a;way a b;way b t;"
            + "walker v weighs 1 at s;");
        x.sendTo(0, 3);
        x.melt(2);
        Check.well("step(1)", x, x.step(1), 0);
        Check.well("told(9): he goes on", x, x.told(9), 1);
        Check.well("step(1)", x, x.step(1), 0);
        Check.well("told(8)", x, x.told(8), 1);
        Check.well("told(9)", x, x.told(9), 0);
        Check.well("step(20)", x, x.step(20), 0);
        Check.well("walker(0, 1): he stays there", x, x.walker(0, 1), 2);
        Check.well("walker(0, 3)", x, x.walker(0, 3), 2);
        Check.well("frost(20)", x, x.frost(20), 1);
        Check.well("told(8): FROST is no RESCUE", x, x.told(8), 1);
        Check.none("sendTo: still WET", x, x.sendTo(0, 3), 7);
        Check.well("rescue(0) out of ICE that is whole", x, x.rescue(0), 0);
        Check.well("walker(0, 1)", x, x.walker(0, 1), 0);
        Check.well("sendTo(0, 3): he may go again", x, x.sendTo(0, 3), 3);
    }

    // ---- promises 24 to 29

    private static void frostBounds() {
        GooseIce x = Check.on("ice a bears 200;ice b bears 199;shore s;");
        for (int k = 0; k < 39; k++) {
            x.frost(20);
        }
        Check.well("frost(19)", x, x.frost(19), 0);
        Check.well("ice(0, 0): just 999", x, x.ice(0, 0), 999);
        Check.well("ice(1, 0): 998", x, x.ice(1, 0), 998);
        Check.well("frost(1)", x, x.frost(1), 0);
        Check.well("ice(0, 0): 999 at most", x, x.ice(0, 0), 999);
        Check.well("ice(1, 0): 999", x, x.ice(1, 0), 999);
        x.melt(0);
        Check.well("frost(20): one is BROKEN no more", x, x.frost(20), 1);
        Check.well("ice(0, 0): n, not more", x, x.ice(0, 0), 20);
        Check.well("ice(1, 0)", x, x.ice(1, 0), 999);
        Check.well("told(7)", x, x.told(7), 0);
        x.melt(0);
        x.melt(1);
        Check.well("frost(1): two", x, x.frost(1), 2);
        Check.well("ice(0, 0)", x, x.ice(0, 0), 1);
        GooseIce y = Check.on("shore s;");
        Check.well("frost(20) of SHORES", y, y.frost(20), 0);
        // BETTER: 990 and 20 is 999, not more, though two are due.
        GooseIce z = Check.on("shore s;ice a bears 200;way s a;hour 1;better 20;worse 0;"
            + "walker v weighs 1 at s;walker w weighs 1 at s;");
        for (int k = 0; k < 38; k++) {
            z.frost(20);
        }
        z.sendTo(0, 1);
        z.sendTo(1, 1);
        z.step(2);
        Check.well("ice(1, 0): 960 and 40 is 999", z, z.ice(1, 0), 999);
    }

    private static void thawBounds() {
        GooseIce x = Check.on("ice a bears 20;ice b bears 21;ice c bears 19;shore s;");
        Check.well("thaw(20): a and c", x, x.thaw(20), 2);
        Check.well("ice(0, 0)", x, x.ice(0, 0), 0);
        Check.well("ice(1, 0)", x, x.ice(1, 0), 1);
        Check.well("ice(2, 0): 0 at least", x, x.ice(2, 0), 0);
        x.frost(1);
        Check.well("frost behind it begins at 0", x, x.ice(2, 0), 1);
        x.melt(1);
        Check.well("thaw(1): all three", x, x.thaw(1), 3);
        Check.well("told(7): THAW breaks nothing", x, x.told(7), 2);
        Check.well("ice(1, 0): BROKEN ICE BEARS 0", x, x.ice(1, 0), 0);
        Check.well("frost(1)", x, x.frost(1), 1);
        Check.well("ice(1, 0)", x, x.ice(1, 0), 1);
        GooseIce y = Check.on("shore s;");
        Check.well("thaw(20) of SHORES", y, y.thaw(20), 0);
        GooseIce z = Check.on("shore s;ice a bears 9;way s a;walker v weighs 7 at s;");
        z.sendTo(0, 1);
        z.step(1);
        Check.well("thaw(1) under him", z, z.thaw(1), 0);
        Check.well("told(7): till the next STEP", z, z.told(7), 0);
        Check.well("step(1): 7 on 6", z, z.step(1), 2);
    }

    private static void firstShore() {
        GooseIce x = Check.on("ice a bears 0;ice b bears 0;shore s;shore t;way a t;walker v weighs 1 at t;");
        Check.tray(x, 0, 0);
        x.send(0, 0, 1);
        x.step(1);
        Check.well("rescue(0)", x, x.rescue(0), 0);
        Check.well("walker(0, 1): the first SHORE, though it is not next to a", x, x.walker(0, 1), 2);
        Check.none("rescue(0) again", x, x.rescue(0), 7);
        Check.well("told(7): the ICE stays BROKEN", x, x.told(7), 1);
        GooseIce y = Check.on("shore s;ice a bears 0;way a s;walker v weighs 1 at s;");
        Check.tray(y, 0, 1);
        y.send(0, 0, 1);
        y.step(1);
        Check.well("rescue(0)", y, y.rescue(0), 0);
        Check.well("walker(0, 1): CELL 0", y, y.walker(0, 1), 0);
        Check.well("walker(0, 2)", y, y.walker(0, 2), 0);
    }

    /** ICE as CELL 0, and as the last of ten. */
    private static void firstIce() {
        StringBuilder b = new StringBuilder("ice a bears 9;");
        for (char c = 'b'; c <= 'i'; c++) {
            b.append("shore ").append(c).append(';');
        }
        GooseIce x = Check.on(b + "ice j bears 9;way a b;way j b;walker v weighs 5 at b;walker w weighs 5 at b;");
        Check.tray(x, 0, 0);
        Check.tray(x, 1, 9);
        x.send(0, 0, 1);
        x.send(1, 1, 1);
        Check.well("step(1)", x, x.step(1), 0);
        Check.well("ice(0, 4)", x, x.ice(0, 4), 5);
        Check.well("ice(9, 4)", x, x.ice(9, 4), 5);
        Check.well("frost(1)", x, x.frost(1), 0);
        Check.well("ice(0, 0)", x, x.ice(0, 0), 10);
        Check.well("ice(9, 0)", x, x.ice(9, 0), 10);
        x.step(4);
        Check.well("ice(0, 0): BETTER", x, x.ice(0, 0), 11);
        Check.well("ice(9, 0): BETTER", x, x.ice(9, 0), 11);
        Check.well("thaw(11)", x, x.thaw(11), 2);
        Check.well("step(1): both break", x, x.step(1), 513);
        Check.well("told(7)", x, x.told(7), 513);
        Check.well("frost(2)", x, x.frost(2), 2);
        Check.well("melt(0)", x, x.melt(0), 1);
        Check.well("melt(9)", x, x.melt(9), 2);
    }

    private static void melts() {
        GooseIce x = Check.on("shore s;ice a bears 9;ice b bears 200;way s a;way s b;beside a b;walker v weighs 1 at s;"
            + "walker w weighs 1 at s;");
        x.sendTo(0, 1);
        x.sendTo(1, 2);
        x.step(1);
        Check.well("melt(1)", x, x.melt(1), 1);
        Check.well("told(8): in it, not BESIDE it", x, x.told(8), 1);
        Check.none("melt(1): it is BROKEN", x, x.melt(1), 7);
        Check.well("melt(2)", x, x.melt(2), 2);
        Check.well("told(8)", x, x.told(8), 3);
        x.frost(1);
        Check.well("melt(1) of ICE that is BROKEN no more", x, x.melt(1), 1);
    }

    private static void weights() {
        GooseIce x = Check.on("shore s;ice a bears 101;way s a;walker v weighs 99 at s;");
        x.sendTo(0, 1);
        Check.well("step(1): 99 on 99", x, x.step(1), 0);
        Check.yes("weigh(0, 1)", x, x.weigh(0, 1));
        Check.well("walker(0, 0)", x, x.walker(0, 0), 1);
        Check.well("ice(1, 3)", x, x.ice(1, 3), 1);
        Check.no("weigh(0, 0)", x, x.weigh(0, 0), 1);
        Check.no("weigh(0, 100)", x, x.weigh(0, 100), 1);
        Check.well("walker(0, 0): it stays", x, x.walker(0, 0), 1);
        Check.yes("weigh(0, 99)", x, x.weigh(0, 99));
        Check.yes("weigh(0, 99) once more", x, x.weigh(0, 99));
        x.melt(1);
        Check.yes("weigh of a WET one", x, x.weigh(0, 50));
    }

    private static void hews() {
        GooseIce x = Check.on("shore s;ice a bears 9;shore t;way s a;walker v weighs 1 at s;");
        Check.no("hew: open already", x, x.hew(1, 0, true), 7);
        Check.yes("hew(1, 2, true)", x, x.hew(1, 2, true));
        Check.no("hew(2, 1, true): it is so now", x, x.hew(2, 1, true), 7);
        Check.well("sendTo(0, 2)", x, x.sendTo(0, 2), 2);
        Check.yes("hew(2, 1, false)", x, x.hew(2, 1, false));
        Check.no("hew(1, 2, false): it is so now", x, x.hew(1, 2, false), 7);
        Check.well("way(1, 2)", x, x.way(1, 2), 0);
        x.step(2);
        Check.well("walker(0, 1): he has his ROUTE", x, x.walker(0, 1), 2);
    }
}
