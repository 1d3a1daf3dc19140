/** An object with something of everything, and all that can be seen of it: for calls that must change nothing. */
final class Scene {
    static final int CELLS = 6;
    static final int WALKERS = 5;

    private Scene() {
    }

    /**
     * CELLS: 0 s, 1 a (9), 2 b (9), 3 t in a row; 4 c (4) BESIDE a; 5 d, BROKEN, next to s. WALKERS: 0 v (5) and
     * 4 y (1) in s, 1 w (4) in a with a ROUTE of two, 2 u (3) WET in d, 3 x (1) in t. TRAYS: 0 is 1, 2, 3 by 32 bits,
     * 1 is MISSING, 2 is 9 by 8 bits, 3 is an empty row by 64 bits. Forty bytes are on the tape, there are three MARKS.
     */
    static GooseIce rich() {
        GooseIce x = Check.on("shore s;ice a bears 9;ice b bears 9;shore t;ice c bears 4;ice d bears 0;way s a;way a b;"
            + "way b t;way s d;beside a c;walker v weighs 5 at s;walker w weighs 4 at s;walker u weighs 3 at s;"
            + "walker x weighs 1 at t;walker y weighs 1 at s;");
        x.mark();
        Check.tray(x, 0, 5);
        x.send(2, 0, 1);
        Check.tray(x, 0, 1, 2, 3);
        x.queue(18, 0, 3);
        x.send(1, 0, 3);
        x.mark();
        x.step(1);
        Check.tales(x, "send y to s;stop;");
        x.live(3);
        x.mark();
        x.tray(2, 0, 1);
        x.write(2, 0, 9);
        x.tray(3, 3, 0);
        x.odds(1, 9, 1, 4, 4);
        x.feed(0x20202020, 0x20202020, 0x20202020, 0x20202020, 0x20202020);
        x.feed(0x20202020, 0x20202020, 0x20202020, 0x20202020, 0x20202020);
        return x;
    }

    /** The object is used up by this: tape, TALES and MARKS can be seen only by what changes them. */
    static String look(GooseIce x) {
        StringBuilder b = new StringBuilder();
        b.append(x.top()).append('/').append(x.bottom()).append(" fault ").append(x.fault(0)).append(' ')
            .append(x.fault(1)).append(" lived");
        for (int k = 0; k < 5; k++) {
            b.append(' ').append(x.lived(k));
        }
        b.append(" queue");
        for (int k = 0; k < 3; k++) {
            b.append(' ').append(x.queueAt(k, 0)).append('+').append(x.queueAt(k, 1));
        }
        lookAtTrays(x, b);
        lookAtLake(x, b);
        b.append(" tape ").append(x.feed(0, 0, 0, 0, 0)).append(" live ").append(x.live(0));
        for (int k = 0; k < 4; k++) {
            b.append(" undo ").append(x.undo()).append(" step ").append(x.told(5));
        }
        return b.toString();
    }

    private static void lookAtTrays(GooseIce x, StringBuilder b) {
        for (int t = 0; t < 4; t++) {
            b.append(" tray");
            for (int k = 0; k < 61; k++) {
                long v = x.read(t, k);
                if (x.status() != 0) {
                    b.append(" status ").append(x.status());
                    break;
                }
                b.append(' ').append(v);
            }
        }
    }

    private static void lookAtLake(GooseIce x, StringBuilder b) {
        b.append(" told");
        for (int k = 0; k < 10; k++) {
            b.append(' ').append(x.told(k));
        }
        for (int c = 0; c < x.told(0); c++) {
            b.append(" cell ").append(x.within(c));
            for (int k = 0; k < 5; k++) {
                b.append(' ').append(x.ice(c, k));
            }
            for (int d = 0; d < c; d++) {
                b.append(' ').append(x.way(c, d)).append(x.beside(c, d));
            }
        }
        for (int w = 0; w < x.told(1); w++) {
            b.append(" walker");
            for (int k = 0; k < 4; k++) {
                b.append(' ').append(x.walker(w, k));
            }
            for (int k = 0; x.routeAt(w, k) != GooseIce.NONE; k++) {
                b.append(',').append(x.routeAt(w, k));
            }
        }
    }
}
