/** Promises 1 to 8: a new object, STATUS, the FRACTION, TRAYS. */
public final class TraysTest {
    public static void main(String[] args) {
        newObject();
        statusAndFraction();
        trays();
        cutToSort();
        pours();
        Check.end();
    }

    private static void newObject() {
        GooseIce x = new GooseIce();
        Check.due("NONE", GooseIce.NONE, -1);
        Check.due("status() of a new object", x.status(), 0);
        Check.due("top() of a new object", x.top(), 0);
        Check.due("bottom() of a new object", x.bottom(), 1);
        int[] told = {0, 0, 2, 4, 1, 0, 0, 0, 0, 0};
        for (int k = 0; k < told.length; k++) {
            Check.well("told(" + k + ") of a new object", x, x.told(k), told[k]);
        }
        Check.none("read(0, 0) of a new object", x, x.read(0, 0), 2);
        Check.none("live(0) of a new object", x, x.live(0), 6);
        Check.none("undo() of a new object", x, x.undo(), 6);
        Check.due("fault(0) of a new object", x.fault(0), -1);
        Check.due("fault(1) of a new object", x.fault(1), -1);
        Check.none("lake(1) of an empty tape", x, x.lake(1), 1);
        Check.well("lake(0) of an empty tape", x, x.lake(0), 0);
        Check.none("queueAt(0, 0) ahead of any", x, x.queueAt(0, 0), 6);
        Check.none("lived(0) ahead of any", x, x.lived(0), 6);
    }

    private static void statusAndFraction() {
        GooseIce x = new GooseIce();
        x.told(77);
        x.feed(0, 0, 0, 0, 0);
        x.fault(0);
        x.top();
        x.bottom();
        Check.due("status() is of the latest call that has one", x.status(), 1);
        x.told(0);
        Check.due("status() behind a good call", x.status(), 0);
        GooseIce y = Check.on("ice a bears 3;");
        Check.fraction("meanIn(0, 1, 8, 0)", y, y.meanIn(0, 1, 8, 0), 7, 2);
        Check.no("odds(0, 0, 11, 1, 1)", y, y.odds(0, 0, 11, 1, 1), 1);
        Check.due("top() behind a refused call", y.top(), 7);
        Check.due("bottom() behind a refused call", y.bottom(), 2);
        Check.fraction("odds(0, 9, 0, 0, 0)", y, y.odds(0, 9, 0, 0, 0), 0, 1);
    }

    private static void trays() {
        GooseIce x = new GooseIce();
        Check.no("tray(-1, 0, 1)", x, x.tray(-1, 0, 1), 1);
        Check.no("tray(4, 0, 1)", x, x.tray(4, 0, 1), 1);
        Check.no("tray(0, -1, 1)", x, x.tray(0, -1, 1), 1);
        Check.no("tray(0, 4, 1)", x, x.tray(0, 4, 1), 1);
        Check.no("tray(0, 0, -1)", x, x.tray(0, 0, -1), 1);
        Check.no("tray(0, 0, 61)", x, x.tray(0, 0, 61), 1);
        Check.no("write(0, 0, 1) into none", x, x.write(0, 0, 1), 2);
        Check.due("tray(0, 0, 60)", x.tray(0, 0, 60), true);
        Check.due("status()", x.status(), 0);
        Check.well("read(0, 59)", x, x.read(0, 59), 0);
        Check.none("read(0, 60)", x, x.read(0, 60), 3);
        Check.none("read(0, -1)", x, x.read(0, -1), 3);
        Check.none("read(4, 0)", x, x.read(4, 0), 1);
        Check.none("read(1, 0)", x, x.read(1, 0), 2);
        Check.no("write(0, 60, 5)", x, x.write(0, 60, 5), 3);
        Check.no("write(-1, 0, 5)", x, x.write(-1, 0, 5), 1);
        Check.due("write(0, 59, 5)", x.write(0, 59, 5), true);
        Check.well("read(0, 59)", x, x.read(0, 59), 5);
        Check.due("tray(0, 0, 60) again", x.tray(0, 0, 60), true);
        Check.well("read(0, 59) of a new row", x, x.read(0, 59), 0);
        Check.due("tray(3, 3, 0)", x.tray(3, 3, 0), true);
        Check.none("read(3, 0) of no numbers", x, x.read(3, 0), 3);
    }

    private static void cutToSort() {
        GooseIce x = new GooseIce();
        long v = 0x123456789abcdef0L;
        long[] want = {(byte) 0xf0, (short) 0xdef0, 0x9abcdef0, v};
        for (int sort = 0; sort < 4; sort++) {
            x.tray(sort, sort, 2);
            x.write(sort, 1, v);
            Check.well("a number cut to sort " + sort, x, x.read(sort, 1), want[sort]);
            Check.well("the place beside it", x, x.read(sort, 0), 0);
            x.write(sort, 1, -1);
            Check.well("-1 in sort " + sort, x, x.read(sort, 1), -1);
        }
    }

    private static void pours() {
        GooseIce x = new GooseIce();
        Check.no("pour below 0, ahead of MISSING", x, x.pour(0, -1, 1, 0, 1), 1);
        Check.no("pour of no TRAY", x, x.pour(4, 0, 1, 0, 1), 1);
        Check.no("pour into no TRAY", x, x.pour(0, 0, 4, 0, 1), 1);
        Check.no("pour at below 0", x, x.pour(0, 0, 1, -1, 1), 1);
        Check.no("pour of fewer than none", x, x.pour(0, 0, 1, 0, -1), 1);
        Check.no("pour of MISSING", x, x.pour(0, 0, 1, 0, 1), 2);
        x.tray(0, 1, 5);
        Check.no("pour into MISSING", x, x.pour(0, 0, 1, 0, 1), 2);
        x.tray(1, 2, 5);
        Check.no("pour of unlike sorts, ahead of places", x, x.pour(0, 9, 1, 0, 1), 8);
        x.tray(1, 1, 3);
        for (int k = 0; k < 5; k++) {
            x.write(0, k, 10 + k);
        }
        Check.no("pour of too many", x, x.pour(0, 3, 1, 0, 3), 3);
        Check.no("pour into too few", x, x.pour(0, 0, 1, 1, 3), 3);
        Check.no("pour with a huge place", x, x.pour(0, Integer.MAX_VALUE, 1, 0, 2), 3);
        Check.no("pour with a huge many", x, x.pour(0, 1, 1, 1, Integer.MAX_VALUE), 3);
        Check.due("pour", x.pour(0, 2, 1, 0, 3), true);
        Check.due("status()", x.status(), 0);
        Check.well("read(1, 0)", x, x.read(1, 0), 12);
        Check.well("read(1, 2)", x, x.read(1, 2), 14);
        Check.due("pour into itself, as they were", x.pour(0, 0, 0, 1, 4), true);
        int[] want = {10, 10, 11, 12, 13};
        for (int k = 0; k < 5; k++) {
            Check.well("read(0, " + k + ")", x, x.read(0, k), want[k]);
        }
        Check.due("pour of none at the end", x.pour(0, 5, 1, 3, 0), true);
    }
}
