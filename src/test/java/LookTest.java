/** Promises 13 to 19: what is told of the LAKE, its ICE and its WALKERS. */
public final class LookTest {
    public static void main(String[] args) {
        toldOfLake();
        toldOfIce();
        toldOfWalkers();
        pairs();
        Check.end();
    }

    // CELLS: 0 s, 1 a, 2 b, 3 t; WALKERS: 0 v (5), 1 w (3) in s.
    private static GooseIce small() {
        return Check.on("shore s;ice a bears 20;ice b bears 30;shore t;way s a;way a b;way b t;beside a b;"
            + "walker v weighs 5 at s;walker w weighs 3 at s;");
    }

    private static void toldOfLake() {
        GooseIce x = small();
        int[] at = {4, 2, 2, 4, 1, 0, 9, 0, 0, 0};
        for (int k = 0; k < at.length; k++) {
            Check.well("told(" + k + ")", x, x.told(k), at[k]);
        }
        Check.none("told(-1)", x, x.told(-1), 1);
        Check.none("told(10)", x, x.told(10), 1);
        x.sendTo(0, 3);
        x.sendTo(1, 1);
        Check.well("told(9) of both", x, x.told(9), 3);
        x.step(1);
        Check.well("told(9) of one", x, x.told(9), 1);
        Check.well("told(5)", x, x.told(5), 1);
        x.melt(1);
        Check.well("told(7)", x, x.told(7), 2);
        Check.well("told(8)", x, x.told(8), 3);
        Check.well("told(9) of the WET", x, x.told(9), 0);
    }

    private static void toldOfIce() {
        GooseIce x = small();
        Check.none("ice(0, 0) of a SHORE", x, x.ice(0, 0), 1);
        Check.none("ice(4, 0)", x, x.ice(4, 0), 1);
        Check.none("ice(-1, 0)", x, x.ice(-1, 0), 1);
        Check.none("ice(1, 5)", x, x.ice(1, 5), 1);
        Check.none("ice(1, -1)", x, x.ice(1, -1), 1);
        x.sendTo(0, 2);
        iceIs(x, 1, 20, 20, 0, 0, 0);
        x.step(1);
        iceIs(x, 1, 20, 18, 1, 5, 5);
        iceIs(x, 2, 30, 30, 0, 5, 5);
        x.sendTo(1, 1);
        x.step(1);
        // v is in b, w in a, which are BESIDE: both count in both.
        iceIs(x, 1, 20, 16, 2, 8, 8);
        iceIs(x, 2, 30, 28, 1, 8, 8);
        x.step(2);
        iceIs(x, 1, 20, 16, 2, 8, 8);
        x.step(1);
        // It is STEP 5: who came in STEP 1 came just HOUR STEPS ago.
        iceIs(x, 1, 21, 19, 1, 8, 8);
        iceIs(x, 2, 30, 28, 1, 8, 8);
        x.sendTo(1, 0);
        x.step(1);
        iceIs(x, 1, 22, 22, 0, 5, 8);
        iceIs(x, 2, 31, 31, 0, 5, 8);
        x.melt(2);
        iceIs(x, 2, 0, 0, 0, 0, 8);
        iceIs(x, 1, 22, 22, 0, 0, 8);
    }

    private static void iceIs(GooseIce x, int cell, int bears, int strength, int came, int load, int most) {
        int[] want = {bears, strength, came, load, most};
        for (int k = 0; k < 5; k++) {
            Check.well("ice(" + cell + ", " + k + ")", x, x.ice(cell, k), want[k]);
        }
    }

    private static void toldOfWalkers() {
        GooseIce x = small();
        Check.none("walker(2, 0)", x, x.walker(2, 0), 1);
        Check.none("walker(-1, 0)", x, x.walker(-1, 0), 1);
        Check.none("walker(0, 4)", x, x.walker(0, 4), 1);
        Check.none("walker(0, -1)", x, x.walker(0, -1), 1);
        Check.none("routeAt(2, 0)", x, x.routeAt(2, 0), 1);
        Check.none("routeAt(0, 0) of no ROUTE", x, x.routeAt(0, 0), 6);
        x.sendTo(0, 3);
        x.step(1);
        int[] want = {5, 1, 2, 1};
        for (int k = 0; k < 4; k++) {
            Check.well("walker(0, " + k + ")", x, x.walker(0, k), want[k]);
        }
        Check.well("routeAt(0, 0)", x, x.routeAt(0, 0), 2);
        Check.well("routeAt(0, 1)", x, x.routeAt(0, 1), 3);
        Check.none("routeAt(0, 2)", x, x.routeAt(0, 2), 6);
        Check.none("routeAt(0, -1)", x, x.routeAt(0, -1), 6);
        x.halt(0);
        Check.none("routeAt(0, 0) behind halt", x, x.routeAt(0, 0), 6);
        Check.well("walker(0, 2) behind halt", x, x.walker(0, 2), 0);
        x.sendTo(0, 0);
        x.step(2);
        Check.well("walker(0, 3): two STEPS in all", x, x.walker(0, 3), 2);
        Check.well("walker(1, 3)", x, x.walker(1, 3), 0);
    }

    private static void pairs() {
        GooseIce x = small();
        Check.well("way(0, 1)", x, x.way(0, 1), 1);
        Check.well("way(1, 0)", x, x.way(1, 0), 1);
        Check.well("way(0, 2)", x, x.way(0, 2), 0);
        Check.none("way(1, 1)", x, x.way(1, 1), 1);
        Check.none("way(1, 4)", x, x.way(1, 4), 1);
        Check.none("way(-1, 1)", x, x.way(-1, 1), 1);
        Check.well("beside(2, 1)", x, x.beside(2, 1), 1);
        Check.well("beside(0, 1)", x, x.beside(0, 1), 0);
        Check.none("beside(2, 2)", x, x.beside(2, 2), 1);
        Check.none("beside(2, 4)", x, x.beside(2, 4), 1);
        Check.none("beside(-1, 2)", x, x.beside(-1, 2), 1);
        Check.well("within(0)", x, x.within(0), 3);
        Check.well("within(3)", x, x.within(3), 0);
        Check.none("within(4)", x, x.within(4), 1);
        Check.none("within(-1)", x, x.within(-1), 1);
        x.sendTo(1, 1);
        x.step(1);
        x.melt(1);
        Check.well("within(1): a WET one, too", x, x.within(1), 2);
        Check.well("within(0) without him", x, x.within(0), 1);
    }
}
