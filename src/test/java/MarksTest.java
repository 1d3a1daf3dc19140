/** Promises 59 and 60: MARKS, and all taken back to them. */
public final class MarksTest {
    private static final String ROW = "shore s;ice a bears 9;shore t;way s a;way a t;"
        + "walker v weighs 5 at s;walker w weighs 4 at s;";

    public static void main(String[] args) {
        counts();
        takesAllBack();
        takesLakeAndTalesBack();
        keepsWhatIsNoLake();
        Check.end();
    }

    private static void counts() {
        GooseIce x = new GooseIce();
        Check.none("undo() without MARKS", x, x.undo(), 6);
        for (int k = 1; k <= 3; k++) {
            Check.well("mark()", x, x.mark(), k);
            x.step(k);
        }
        Check.none("a fourth mark()", x, x.mark(), 4);
        Check.well("told(5)", x, x.told(5), 6);
        Check.well("undo()", x, x.undo(), 2);
        Check.well("told(5)", x, x.told(5), 3);
        Check.well("undo()", x, x.undo(), 1);
        Check.well("told(5)", x, x.told(5), 1);
        Check.well("mark() again", x, x.mark(), 2);
        Check.well("undo()", x, x.undo(), 1);
        Check.well("undo()", x, x.undo(), 0);
        Check.well("told(5)", x, x.told(5), 0);
        Check.none("undo()", x, x.undo(), 6);
    }

    private static void takesAllBack() {
        GooseIce x = Check.on(ROW);
        x.sendTo(0, 2);
        x.step(1);
        x.mark();
        x.step(3);
        x.sendTo(1, 1);
        x.weigh(1, 9);
        x.hew(0, 2, true);
        x.melt(1);
        x.frost(5);
        x.undo();
        int[] told = {3, 2, 2, 4, 1, 1, 5, 0, 0, 1};
        for (int k = 0; k < told.length; k++) {
            Check.well("told(" + k + ")", x, x.told(k), told[k]);
        }
        int[] ice = {9, 7, 1, 5, 5};
        for (int k = 0; k < ice.length; k++) {
            Check.well("ice(1, " + k + ")", x, x.ice(1, k), ice[k]);
        }
        int[] v = {5, 1, 1, 1};
        int[] w = {4, 0, 0, 0};
        for (int k = 0; k < 4; k++) {
            Check.well("walker(0, " + k + ")", x, x.walker(0, k), v[k]);
            Check.well("walker(1, " + k + ")", x, x.walker(1, k), w[k]);
        }
        Check.well("routeAt(0, 0)", x, x.routeAt(0, 0), 2);
        Check.well("way(0, 2)", x, x.way(0, 2), 0);
        Check.well("within(1)", x, x.within(1), 1);
        // What is due is taken back, too: v came into a in STEP 1.
        x.step(3);
        Check.well("ice(1, 0) in STEP 4", x, x.ice(1, 0), 9);
        x.step(1);
        Check.well("ice(1, 0) in STEP 5", x, x.ice(1, 0), 10);
    }

    private static void takesLakeAndTalesBack() {
        GooseIce x = Check.on(ROW);
        Check.tales(x, "frost 1;frost 1;");
        x.mark();
        Check.tales(x, "thaw 1;");
        x.mark();
        Check.lake(x, "shore z;hour 9;");
        Check.well("told(0)", x, x.told(0), 1);
        Check.none("live(0)", x, x.live(0), 6);
        Check.well("undo()", x, x.undo(), 1);
        Check.well("told(0)", x, x.told(0), 3);
        Check.well("told(3)", x, x.told(3), 4);
        Check.well("live(0) of thaw", x, x.live(0), 1);
        Check.well("undo()", x, x.undo(), 0);
        Check.well("live(0) of frost", x, x.live(0), 2);
        Check.well("ice(1, 0)", x, x.ice(1, 0), 11);
        // The NAMES are those of the LAKE that is back.
        Check.well("tales", x, Check.tales(x, "send w to t;"), 1);
    }

    private static void keepsWhatIsNoLake() {
        GooseIce x = Check.on(ROW);
        Check.tales(x, "step 2;");
        x.mark();
        Check.tray(x, 0, 1, 2);
        x.live(0);
        x.undo();
        Check.well("read(0, 1): a TRAY is no LAKE", x, x.read(0, 1), 2);
        Check.well("lived(1): of live() latest", x, x.lived(1), 2);
    }
}
