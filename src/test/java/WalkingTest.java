/** Promises 20 to 29: SEND, STEP, what BREAKS, FROST, THAW, RESCUE, MELT. */
public final class WalkingTest {
    public static void main(String[] args) {
        sends();
        sendsTo();
        halts();
        steps();
        lastStep();
        worseAndBetter();
        boundOfBearing();
        breaks();
        breaksAtOnce();
        intoBroken();
        frosts();
        thaws();
        rescues();
        melts();
        weighs();
        hews();
        Check.end();
    }

    // CELLS: 0 s, 1 a (9), 2 b (9), 3 t in a row; WALKERS: 0 v (5), 1 w (4) in s.
    private static GooseIce row() {
        return Check.on("shore s;ice a bears 9;ice b bears 9;shore t;way s a;way a b;way b t;"
            + "walker v weighs 5 at s;walker w weighs 4 at s;");
    }

    private static void sends() {
        GooseIce x = row();
        Check.none("send without a TRAY", x, x.send(0, 0, 1), 2);
        Check.tray(x, 0, 1, 2, 1, 0);
        Check.none("send(2, 0, 1)", x, x.send(2, 0, 1), 1);
        Check.none("send(0, 4, 1)", x, x.send(0, 4, 1), 1);
        Check.none("send(0, 0, 0)", x, x.send(0, 0, 0), 1);
        Check.none("send(0, 1, 21), 1 ahead of 2", x, x.send(0, 1, 21), 1);
        Check.none("send(0, 0, 5)", x, x.send(0, 0, 5), 3);
        Check.tray(x, 1, 4);
        Check.none("send to no CELL", x, x.send(0, 1, 1), 5);
        Check.tray(x, 1, 1, -1);
        Check.none("send to a CELL below 0", x, x.send(0, 1, 2), 5);
        Check.tray(x, 1, 2, 9);
        Check.none("send: 5 ahead of 7", x, x.send(0, 1, 2), 5);
        Check.none("send by no WAY", x, x.send(0, 1, 1), 7);
        Check.tray(x, 1, 0);
        Check.none("send to where he is", x, x.send(0, 1, 1), 7);
        Check.well("send there and back", x, x.send(0, 0, 4), 4);
        Check.well("walker(0, 2)", x, x.walker(0, 2), 4);
        Check.none("send of one with a ROUTE", x, x.send(0, 0, 4), 7);
        Check.well("send of another one", x, x.send(1, 0, 1), 1);
        x.melt(1);
        x.step(1);
        Check.none("send of a WET one", x, x.send(1, 0, 1), 7);
        GooseIce y = row();
        y.tray(3, 0, 20);
        for (int k = 0; k < 20; k++) {
            y.write(3, k, 1 + k % 2);
        }
        Check.well("send along twenty", y, y.send(1, 3, 20), 20);
        Check.well("routeAt(1, 19)", y, y.routeAt(1, 19), 2);
    }

    private static void sendsTo() {
        GooseIce x = row();
        Check.none("sendTo(2, 1)", x, x.sendTo(2, 1), 1);
        Check.none("sendTo(0, 4)", x, x.sendTo(0, 4), 1);
        Check.none("sendTo(0, 0): he is there", x, x.sendTo(0, 0), 7);
        Check.well("sendTo(0, 3)", x, x.sendTo(0, 3), 3);
        Check.well("routeAt(0, 0)", x, x.routeAt(0, 0), 1);
        Check.well("routeAt(0, 2)", x, x.routeAt(0, 2), 3);
        Check.none("sendTo with a ROUTE", x, x.sendTo(0, 3), 7);
        x.melt(2);
        Check.none("sendTo by no WAY", x, x.sendTo(1, 3), 6);
        x.step(2);
        Check.none("sendTo of a WET one", x, x.sendTo(0, 3), 7);
    }

    private static void halts() {
        GooseIce x = row();
        Check.none("halt(2)", x, x.halt(2), 1);
        Check.none("halt(-1)", x, x.halt(-1), 1);
        Check.none("halt without a ROUTE", x, x.halt(0), 7);
        x.sendTo(0, 3);
        x.step(1);
        Check.well("halt(0)", x, x.halt(0), 2);
        Check.well("told(9)", x, x.told(9), 0);
        Check.none("halt again", x, x.halt(0), 7);
        x.step(1);
        Check.well("walker(0, 1): he stands", x, x.walker(0, 1), 1);
    }

    private static void steps() {
        GooseIce x = row();
        Check.none("step(0)", x, x.step(0), 1);
        Check.none("step(21)", x, x.step(21), 1);
        x.sendTo(0, 3);
        Check.well("step(2)", x, x.step(2), 0);
        Check.well("walker(0, 1)", x, x.walker(0, 1), 2);
        Check.well("step(20)", x, x.step(20), 0);
        Check.well("walker(0, 1)", x, x.walker(0, 1), 3);
        Check.well("walker(0, 3)", x, x.walker(0, 3), 3);
        Check.well("told(5)", x, x.told(5), 22);
        Check.well("told(9)", x, x.told(9), 0);
        // A shut WAY does not change a ROUTE that he has.
        x.sendTo(1, 3);
        x.hew(0, 1, false);
        x.step(3);
        Check.well("walker(1, 1)", x, x.walker(1, 1), 3);
    }

    private static void lastStep() {
        GooseIce x = row();
        for (int k = 0; k < 499; k++) {
            x.step(20);
        }
        Check.well("told(5)", x, x.told(5), 9980);
        Check.none("step(20) above 9,999", x, x.step(20), 4);
        Check.none("step(21): 1 ahead of 4", x, x.step(21), 1);
        Check.well("told(5)", x, x.told(5), 9980);
        Check.well("step(19)", x, x.step(19), 0);
        Check.well("told(5)", x, x.told(5), 9999);
        Check.none("step(1)", x, x.step(1), 4);
    }

    private static void worseAndBetter() {
        GooseIce x = Check.on("shore s;ice a bears 30;way s a;worse 3;hour 2;better 5;"
            + "walker v weighs 1 at s;walker w weighs 1 at s;");
        Check.tray(x, 0, 1, 0, 1, 0);
        x.send(0, 0, 4);
        x.send(1, 0, 2);
        x.step(1);
        Check.well("ice(0.., 1) behind two", x, x.ice(1, 1), 24);
        x.step(1);
        Check.well("ice(1, 2) a STEP later", x, x.ice(1, 2), 2);
        x.step(1);
        // STEP 3: the two of STEP 1 are due, a third came in this STEP.
        Check.well("ice(1, 0)", x, x.ice(1, 0), 40);
        Check.well("ice(1, 2)", x, x.ice(1, 2), 1);
        Check.well("ice(1, 1)", x, x.ice(1, 1), 37);
        x.step(2);
        Check.well("ice(1, 0)", x, x.ice(1, 0), 45);
        Check.well("ice(1, 1)", x, x.ice(1, 1), 45);
        GooseIce y = Check.on("shore s;ice a bears 3;way s a;worse 20;walker v weighs 1 at s;");
        Check.tray(y, 0, 1);
        y.send(0, 0, 1);
        Check.well("step(1): STRENGTH 0 breaks", y, y.step(1), 2);
        GooseIce z = Check.on("shore s;ice a bears 9;way s a;hour 1;better 4;walker v weighs 1 at s;");
        z.sendTo(0, 1);
        z.step(1);
        Check.well("HOUR 1: ice(1, 1) in this STEP", z, z.ice(1, 1), 7);
        z.step(1);
        Check.well("HOUR 1: ice(1, 1) a STEP later", z, z.ice(1, 1), 13);
    }

    private static void boundOfBearing() {
        GooseIce x = Check.on("shore s;ice a bears 200;way s a;worse 0;hour 1;better 20;walker v weighs 1 at s;");
        for (int k = 0; k < 39; k++) {
            x.frost(20);
        }
        Check.well("ice(1, 0)", x, x.ice(1, 0), 980);
        x.sendTo(0, 1);
        x.step(2);
        Check.well("BETTER goes to 999 at most", x, x.ice(1, 0), 999);
        x.frost(1);
        Check.well("FROST goes to 999 at most", x, x.ice(1, 0), 999);
        Check.well("margin(0, 1)", x, x.margin(0, 1), 998);
    }

    private static void breaks() {
        // 9 less 2 for one who came is 7: v and w together are 9 and came both.
        GooseIce x = row();
        x.sendTo(0, 3);
        x.sendTo(1, 1);
        Check.well("step(3): ICE breaks under both", x, x.step(3), 2);
        Check.well("told(7)", x, x.told(7), 2);
        Check.well("told(8)", x, x.told(8), 3);
        Check.well("walker(0, 1): they stay there", x, x.walker(0, 1), 1);
        Check.well("walker(0, 2): no ROUTE", x, x.walker(0, 2), 0);
        Check.well("walker(0, 3)", x, x.walker(0, 3), 1);
        Check.well("ice(1, 2): nobody CAME INTO it", x, x.ice(1, 2), 0);
        Check.well("ice(1, 3): WET ones are no LOAD", x, x.ice(1, 3), 0);
        Check.well("ice(1, 4): it held nothing", x, x.ice(1, 4), 0);
        GooseIce y = Check.on("shore s;ice a bears 7;way s a;walker v weighs 5 at s;");
        y.sendTo(0, 1);
        Check.well("a LOAD as great as STRENGTH holds", y, y.step(1), 0);
        Check.well("ice(1, 4)", y, y.ice(1, 4), 5);
        y.weigh(0, 6);
        Check.well("ICE breaks under one who stands there", y, y.step(1), 2);
        Check.well("ice(1, 4) stays", y, y.ice(1, 4), 5);
    }

    private static void breaksAtOnce() {
        // a and b are BESIDE: each has the LOAD of both WALKERS, so both break in one STEP.
        GooseIce x = Check.on("shore s;ice a bears 10;ice b bears 10;ice c bears 50;way s a;way s b;way s c;"
            + "beside a b;beside c b;walker v weighs 5 at s;walker w weighs 5 at s;walker u weighs 9 at s;");
        Check.tray(x, 0, 1);
        Check.tray(x, 1, 2);
        Check.tray(x, 2, 3);
        x.send(0, 0, 1);
        x.send(1, 1, 1);
        x.send(2, 2, 1);
        Check.well("step(1)", x, x.step(1), 6);
        Check.well("told(8)", x, x.told(8), 3);
        // Behind the STEP w is WET and counts no more in c.
        Check.well("ice(3, 3)", x, x.ice(3, 3), 9);
        Check.well("ice(3, 4)", x, x.ice(3, 4), 9);
    }

    private static void intoBroken() {
        GooseIce x = row();
        x.sendTo(1, 3);
        x.melt(2);
        Check.well("step(3): nothing breaks", x, x.step(3), 0);
        Check.well("told(8)", x, x.told(8), 2);
        Check.well("walker(1, 1)", x, x.walker(1, 1), 2);
        Check.well("walker(1, 2)", x, x.walker(1, 2), 0);
        Check.well("walker(1, 3)", x, x.walker(1, 3), 2);
        Check.well("ice(2, 2)", x, x.ice(2, 2), 0);
    }

    private static void frosts() {
        GooseIce x = row();
        Check.none("frost(0)", x, x.frost(0), 1);
        Check.none("frost(21)", x, x.frost(21), 1);
        x.melt(1);
        Check.well("frost(20)", x, x.frost(20), 1);
        Check.well("ice(1, 0)", x, x.ice(1, 0), 20);
        Check.well("ice(2, 0)", x, x.ice(2, 0), 29);
        Check.well("told(7)", x, x.told(7), 0);
        Check.well("frost(1)", x, x.frost(1), 0);
    }

    private static void thaws() {
        GooseIce x = Check.on("shore s;ice a bears 9;ice b bears 5;ice c bears 20;way s a;walker v weighs 1 at s;");
        Check.none("thaw(0)", x, x.thaw(0), 1);
        Check.none("thaw(21)", x, x.thaw(21), 1);
        Check.well("thaw(5)", x, x.thaw(5), 1);
        Check.well("ice(1, 0)", x, x.ice(1, 0), 4);
        x.sendTo(0, 1);
        x.step(1);
        Check.well("thaw(2): STRENGTH, not what it BEARS", x, x.thaw(2), 2);
        Check.well("ice(1, 0)", x, x.ice(1, 0), 2);
        Check.well("ice(2, 0): 0 at least", x, x.ice(2, 0), 0);
        Check.well("step(1)", x, x.step(1), 2);
        x.melt(3);
        Check.well("thaw(1): BROKEN ICE, too", x, x.thaw(1), 3);
    }

    private static void rescues() {
        GooseIce x = Check.on("ice a bears 0;shore s;shore t;way a t;walker v weighs 1 at t;walker w weighs 1 at t;");
        Check.tray(x, 0, 0);
        Check.none("rescue(2)", x, x.rescue(2), 1);
        Check.none("rescue of one who is not WET", x, x.rescue(0), 7);
        x.send(0, 0, 1);
        x.send(1, 0, 1);
        x.step(1);
        Check.well("rescue(1)", x, x.rescue(1), 1);
        Check.well("walker(1, 1): the first SHORE", x, x.walker(1, 1), 1);
        Check.well("walker(1, 3): no STEP more", x, x.walker(1, 3), 1);
        Check.well("within(0)", x, x.within(0), 1);
        Check.well("within(1)", x, x.within(1), 2);
        Check.well("rescue(0)", x, x.rescue(0), 0);
        Check.well("told(8)", x, x.told(8), 0);
    }

    private static void melts() {
        GooseIce x = row();
        Check.none("melt of a SHORE", x, x.melt(0), 1);
        Check.none("melt(4)", x, x.melt(4), 1);
        x.sendTo(0, 3);
        x.step(1);
        Check.well("melt(1)", x, x.melt(1), 1);
        Check.well("told(8)", x, x.told(8), 1);
        Check.well("told(9)", x, x.told(9), 0);
        Check.well("ice(1, 0)", x, x.ice(1, 0), 0);
        Check.well("ice(1, 2)", x, x.ice(1, 2), 0);
        Check.none("melt of BROKEN ICE", x, x.melt(1), 7);
        Check.well("melt(2)", x, x.melt(2), 2);
        // Nothing is due of who came into ICE that is BROKEN since then.
        x.frost(3);
        x.step(9);
        Check.well("ice(1, 0)", x, x.ice(1, 0), 3);
    }

    private static void weighs() {
        GooseIce x = row();
        Check.no("weigh(2, 1)", x, x.weigh(2, 1), 1);
        Check.no("weigh(0, 0)", x, x.weigh(0, 0), 1);
        Check.no("weigh(0, 100)", x, x.weigh(0, 100), 1);
        Check.due("weigh(0, 99)", x.weigh(0, 99), true);
        Check.well("walker(0, 0)", x, x.walker(0, 0), 99);
        Check.well("walker(1, 0)", x, x.walker(1, 0), 4);
    }

    private static void hews() {
        GooseIce x = row();
        Check.no("hew(0, 0, true)", x, x.hew(0, 0, true), 1);
        Check.no("hew(0, 4, true)", x, x.hew(0, 4, true), 1);
        Check.no("hew(-1, 0, true)", x, x.hew(-1, 0, true), 1);
        Check.no("hew(0, 1, true): it is so", x, x.hew(0, 1, true), 7);
        Check.no("hew(0, 3, false): it is so", x, x.hew(0, 3, false), 7);
        Check.due("hew(3, 0, true)", x.hew(3, 0, true), true);
        Check.well("way(0, 3)", x, x.way(0, 3), 1);
        Check.well("far(0, 3)", x, x.far(0, 3), 1);
        Check.due("hew(0, 3, false)", x.hew(0, 3, false), true);
        Check.well("way(3, 0)", x, x.way(3, 0), 0);
    }
}
