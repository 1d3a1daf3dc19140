/** Promises 9 to 12: the tape, the LAKE, the TALES, their FAULTS. */
public final class TextsTest {
    private static final String TWO = "shore s;ice a bears 9;";

    public static void main(String[] args) {
        tape();
        lakes();
        lakeFaults();
        lakeLimits();
        faultKeepsOldLake();
        tales();
        talesFaults();
        Check.end();
    }

    private static void tape() {
        GooseIce x = new GooseIce();
        for (int k = 1; k <= 45; k++) {
            Check.due("feed " + k, x.feed(0x20202020, 0x20202020, 0x20202020, 0x20202020, 0x20202020), 20 * k);
        }
        Check.due("feed beyond 900", x.feed(1, 2, 3, 4, 5), -1);
        Check.none("lake(901)", x, x.lake(901), 1);
        Check.none("lake(-1)", x, x.lake(-1), 1);
        Check.none("tales(301)", x, x.tales(301), 1);
        Check.none("tales(-1)", x, x.tales(-1), 1);
        Check.due("fault(0) behind refused calls", x.fault(0), -1);
        Check.well("lake(900) of blanks", x, x.lake(900), 0);
        Check.due("feed behind lake()", x.feed(0, 0, 0, 0, 0), 20);
        Check.none("lake(20) of bytes 0", x, x.lake(20), 9);
        Check.due("feed behind a FAULT", x.feed(0, 0, 0, 0, 0), 20);
        Check.none("tales(21)", x, x.tales(21), 1);
        Check.none("tales(20) of bytes 0", x, x.tales(20), 9);
        // The highest byte comes first: "shore abcdefgh;" and "ice" would else not be read.
        GooseIce y = new GooseIce();
        y.feed(0x73686f72, 0x65206162, 0x63646566, 0x67683b20, 0xff000000);
        Check.well("lake(16)", y, y.lake(16), 1);
        Check.well("told(6)", y, y.told(6), 1);
    }

    private static void lakes() {
        GooseIce x = new GooseIce();
        Check.well("lake", x, Check.lake(x, "ice a bears 0;ice\nbb bears 0200;shore c;worse 20;hour 20;better 20;"), 3);
        int[] told = {3, 0, 20, 20, 20, 0, 4, 0, 0, 0};
        for (int k = 0; k < told.length; k++) {
            Check.well("told(" + k + ")", x, x.told(k), told[k]);
        }
        Check.well("ice(1, 0)", x, x.ice(1, 0), 200);
        Check.due("fault(0)", x.fault(0), 0);
        Check.due("fault(1)", x.fault(1), -1);
        Check.due("fault(2)", x.fault(2), -1);
        x.step(3);
        x.melt(0);
        Check.well("lake in place of that", x, Check.lake(x, "ice a bears 5;worse0;better0;hour1;"), 1);
        int[] then = {1, 0, 0, 1, 0, 0, 0, 0, 0, 0};
        for (int k = 0; k < then.length; k++) {
            Check.well("told(" + k + ") of the new one", x, x.told(k), then[k]);
        }
        Check.well("lake without settings", x, Check.lake(x, "shore s;walker w weighs 99 at s;"), 1);
        Check.well("told(2) without", x, x.told(2), 2);
        Check.well("told(3) without", x, x.told(3), 4);
        Check.well("told(4) without", x, x.told(4), 1);
        Check.well("walker(0, 0)", x, x.walker(0, 0), 99);
        Check.well("ways told again", x,
            Check.lake(x, "ice a bears 1;ice b bears 2;way a b;way b a;way a b;beside b a;beside a b;"), 2);
        Check.well("way(1, 0)", x, x.way(1, 0), 1);
        Check.well("beside(1, 0)", x, x.beside(1, 0), 1);
        GooseIce y = Check.on(TWO);
        Check.tales(y, "any;");
        Check.lake(y, TWO);
        Check.none("live(0): a LAKE that is taken has no TALES", y, y.live(0), 6);
    }

    private static void lakeFault(String text, int kind, int place) {
        GooseIce x = new GooseIce();
        Check.none("lake of '" + text + "'", x, Check.lake(x, text), 9);
        Check.due("fault(0) of '" + text + "'", x.fault(0), kind);
        Check.due("fault(1) of '" + text + "'", x.fault(1), place);
        Check.due("fault(2) of '" + text + "'", x.fault(2), -1);
    }

    private static void lakeFaults() {
        lakeFault("Ice", 1, 0);
        lakeFault("shore s;?", 1, 8);
        lakeFault("shore\ts;", 1, 5);
        lakeFault("ice a bears 00005;", 1, 12);
        lakeFault("ice 12345", 1, 4);
        lakeFault("ice a\u00e9", 1, 5);
        lakeFault(";", 2, 0);
        lakeFault("5", 2, 0);
        lakeFault("send", 2, 0);
        lakeFault("icecream a", 2, 0);
        lakeFault("shore", 2, 5);
        lakeFault("shore s", 2, 7);
        lakeFault("shore s  \n", 2, 10);
        lakeFault("shore abcdefghi;", 2, 6);
        lakeFault("shore stop;", 2, 6);
        lakeFault("shore 5;", 2, 6);
        lakeFault("ice a 5;", 2, 6);
        lakeFault("ice a bears b;", 2, 12);
        lakeFault("ice a bears 5 5", 2, 14);
        lakeFault("ice a bears =", 2, 12);
        lakeFault("walker w weighs 5 in s;", 2, 18);
        lakeFault(TWO + "way s a b;", 2, 30);
        lakeFault("shore s;ice s", 3, 12);
        lakeFault("shore s;walker s", 3, 15);
        lakeFault("shore s;walker w weighs 1 at s;shore w", 3, 37);
        lakeFault("shore s;way s t;", 3, 14);
        lakeFault("shore s;way t s;", 3, 12);
        lakeFault("shore s;walker w weighs 1 at w;", 3, 29);
        lakeFault("shore s;walker w weighs 1 at s;way s w", 3, 37);
        lakeFault("ice a bears 201;", 4, 12);
        lakeFault("shore s;walker w weighs 0 at s;", 4, 24);
        lakeFault("shore s;walker w weighs 100 at s;", 4, 24);
        lakeFault("worse 21;", 4, 6);
        lakeFault("hour 0;", 4, 5);
        lakeFault("hour 21;", 4, 5);
        lakeFault("better 21;", 4, 7);
        lakeFault(TWO + "way a a", 5, 28);
        lakeFault(TWO + "beside a a", 5, 31);
        lakeFault(TWO + "beside a s", 5, 31);
        lakeFault(TWO + "beside s a", 5, 29);
        lakeFault(TWO + "walker w weighs 1 at a", 5, 43);
        lakeFault("worse 1;worse 1;", 5, 8);
        lakeFault("hour 1;worse 1;hour 30;", 5, 15);
        lakeFault("better 1;better", 5, 9);
    }

    private static void lakeLimits() {
        StringBuilder cells = new StringBuilder();
        for (char c = 'a'; c <= 'j'; c++) {
            cells.append("shore ").append(c).append(';');
        }
        GooseIce x = new GooseIce();
        Check.well("lake of ten CELLS", x, Check.lake(x, cells.toString()), 10);
        Check.well("told(6)", x, x.told(6), 1023);
        lakeFault(cells + "ice ?", 6, 80);
        lakeFault(cells + "shore", 6, 80);
        StringBuilder men = new StringBuilder("shore s;");
        for (char c = 'a'; c <= 'h'; c++) {
            men.append("walker ").append(c).append(" weighs 1 at s;");
        }
        Check.well("lake of eight WALKERS", x, Check.lake(x, men.toString()), 1);
        Check.well("told(1)", x, x.told(1), 8);
        Check.well("within(0)", x, x.within(0), 255);
        lakeFault(men + "walker a", 6, men.length());
    }

    private static void faultKeepsOldLake() {
        GooseIce x = Check.on("shore s;worse 3;walker w weighs 7 at s;");
        x.step(2);
        Check.none("a lake with a FAULT", x, Check.lake(x, "shore t;shore u;worse 9;shore t;"), 9);
        Check.well("told(0)", x, x.told(0), 1);
        Check.well("told(2)", x, x.told(2), 3);
        Check.well("told(5)", x, x.told(5), 2);
        Check.well("walker(0, 0)", x, x.walker(0, 0), 7);
        Check.due("fault(0)", x.fault(0), 3);
        Check.none("lake(1) of an empty tape", x, x.lake(1), 1);
        Check.due("fault(0) stays behind STATUS 1", x.fault(0), 3);
        Check.due("fault(1) stays behind STATUS 1", x.fault(1), 30);
        Check.well("lake(0)", x, x.lake(0), 0);
        Check.due("fault(0) behind STATUS 0", x.fault(0), 0);
        Check.due("fault(1) behind STATUS 0", x.fault(1), -1);
    }

    private static final String WITH_MAN = TWO + "walker w weighs 1 at s;";

    private static void tales() {
        GooseIce x = Check.on(WITH_MAN);
        Check.well("tales", x, Check.tales(x, "send w to a;step 20;frost 1;thaw 20;any;stop;"), 6);
        Check.well("tales: end is no STEP", x,
            Check.tales(x, "when bears a < 0;when bears s > 999;loop 99;end;end;when wet w;end;end;when at w in s;end;"), 5);
        Check.well("tales of nothing", x, x.tales(0), 0);
        Check.due("fault(0)", x.fault(0), 0);
        StringBuilder thirty = new StringBuilder();
        for (int k = 0; k < 30; k++) {
            thirty.append("any;");
        }
        Check.well("tales of thirty STEPS", x, Check.tales(x, thirty.toString()), 30);
        talesFault(thirty + "end;", 2, 120);
        talesFault(thirty + "any;", 6, 120);
        talesFault("loop 1;loop 1;loop 1;" + thirty.substring(12) + "loop", 6, 129);
    }

    private static void talesFault(String text, int kind, int place) {
        GooseIce x = Check.on(WITH_MAN);
        Check.tales(x, "any;any;any;");
        Check.none("tales of '" + text + "'", x, Check.tales(x, text), 9);
        Check.due("fault(0) of '" + text + "'", x.fault(0), kind);
        Check.due("fault(1) of '" + text + "'", x.fault(1), place);
        Check.well("live(0) of the old TALES", x, x.live(0), 3);
    }

    private static void talesFaults() {
        talesFault("any;!", 1, 4);
        talesFault("step 00001;", 1, 5);
        talesFault("ice", 2, 0);
        talesFault("end;", 2, 0);
        talesFault("loop 2;any;", 2, 11);
        talesFault("loop 2;any; \n", 2, 13);
        talesFault("loop 2;end;end;", 2, 11);
        talesFault("when any;", 2, 5);
        talesFault("when bears a ; 5;", 2, 13);
        talesFault("when bears a 5;", 2, 13);
        talesFault("when wet w > 1;", 2, 11);
        talesFault("when at w to a;", 2, 10);
        talesFault("any 1;", 2, 4);
        talesFault("send w a;", 2, 7);
        talesFault("send w to a", 2, 11);
        talesFault("send frost to a", 2, 5);
        talesFault("send abcdefghi to a", 2, 5);
        talesFault("send a to a;", 3, 5);
        talesFault("send w to w;", 3, 10);
        talesFault("send x to w;", 3, 5);
        talesFault("when bears w < 1;end;", 3, 11);
        talesFault("when at a in a;", 3, 8);
        talesFault("when at w in w;", 3, 13);
        talesFault("when wet a;", 3, 9);
        talesFault("step 0;", 4, 5);
        talesFault("step 21;", 4, 5);
        talesFault("frost 0;", 4, 6);
        talesFault("frost 21;", 4, 6);
        talesFault("thaw 0;", 4, 5);
        talesFault("thaw 21;", 4, 5);
        talesFault("loop 0;", 4, 5);
        talesFault("loop 100;", 4, 5);
        talesFault("when bears a = 1000;", 4, 15);
        talesFault("loop 1;loop 1;loop 1;loop 1;", 7, 21);
        talesFault("loop 1;when wet w;loop 1;when x", 7, 25);
    }
}
