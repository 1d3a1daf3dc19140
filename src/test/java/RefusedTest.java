/**
 * Promises 5 to 60, what each refuses beside numbers that can't be: NONE or false, the STATUS that is the first to hold,
 * and nothing changed.
 */
public final class RefusedTest {
    private interface Ask {
        long of(GooseIce x);
    }

    private interface AskFlag {
        boolean of(GooseIce x);
    }

    private static String untouched;
    private static String untouchedNew;

    public static void main(String[] args) {
        untouched = Scene.look(Scene.rich());
        untouchedNew = Scene.look(new GooseIce());
        trays();
        texts();
        cells();
        sends();
        walking();
        ways();
        queues();
        queuesThatAreRefused();
        newObject();
        Check.end();
    }

    private static void refuse(String call, int status, Ask ask) {
        GooseIce x = Scene.rich();
        Check.none(call, x, ask.of(x), status);
        Check.same(call, Scene.look(x), untouched);
    }

    private static void deny(String call, int status, AskFlag ask) {
        GooseIce x = Scene.rich();
        Check.no(call, x, ask.of(x), status);
        Check.same(call, Scene.look(x), untouched);
    }

    private static void trays() {
        deny("write: no such TRAY, ahead of a place that it has not", 1, x -> x.write(4, -1, 5));
        deny("write: MISSING, ahead of a place that it has not", 2, x -> x.write(1, -1, 5));
        deny("write: a place below 0", 3, x -> x.write(0, -1, 5));
        deny("write: a place just behind the row", 3, x -> x.write(0, 3, 5));
        deny("write: into an empty row", 3, x -> x.write(3, 0, 5));
        deny("write: a place far behind", 3, x -> x.write(0, Integer.MAX_VALUE, 5));
        deny("write: a place far below", 3, x -> x.write(0, Integer.MIN_VALUE, 5));
        refuse("read: no such TRAY, ahead of a place that it has not", 1, x -> x.read(-1, -1));
        refuse("read: MISSING, ahead of a place that it has not", 2, x -> x.read(1, 99));
        refuse("read: a place below 0", 3, x -> x.read(0, -1));
        refuse("read: a place just behind the row", 3, x -> x.read(0, 3));
        refuse("read: of an empty row", 3, x -> x.read(3, 0));
        refuse("read: a place far behind", 3, x -> x.read(0, Integer.MAX_VALUE));
        refuse("read: a place far below", 3, x -> x.read(0, Integer.MIN_VALUE));
        deny("pour: below 0, ahead of MISSING", 1, x -> x.pour(1, -1, 1, 0, 1));
        deny("pour: from MISSING, ahead of unlike sorts", 2, x -> x.pour(1, 0, 2, 0, 1));
        deny("pour: to MISSING, ahead of places", 2, x -> x.pour(0, 9, 1, 0, 1));
        deny("pour: unlike sorts, ahead of places", 8, x -> x.pour(0, 9, 2, 9, 9));
        deny("pour: unlike sorts, even of no numbers", 8, x -> x.pour(0, 0, 2, 0, 0));
        deny("pour: one more than the row has", 3, x -> x.pour(0, 0, 0, 0, 4));
        deny("pour: one more than it has from there on", 3, x -> x.pour(0, 1, 0, 0, 3));
        deny("pour: one more than it has room for from there on", 3, x -> x.pour(0, 0, 0, 1, 3));
        deny("pour: no numbers from behind the row", 3, x -> x.pour(0, 4, 0, 0, 0));
        deny("pour: no numbers to behind the row", 3, x -> x.pour(0, 0, 0, 4, 0));
        deny("pour: a sum that wraps around", 3, x -> x.pour(0, Integer.MAX_VALUE, 0, 0, Integer.MAX_VALUE));
        deny("pour: a sum that wraps around there", 3, x -> x.pour(0, 0, 0, Integer.MAX_VALUE, 2));
        deny("pour: very many", 3, x -> x.pour(0, 1, 0, 1, Integer.MAX_VALUE));
    }

    private static void texts() {
        refuse("lake: more than the tape has", 1, x -> x.lake(41));
        refuse("tales: more than the tape has", 1, x -> x.tales(41));
        GooseIce x = new GooseIce();
        for (int k = 0; k < 16; k++) {
            x.feed(0x20202020, 0x20202020, 0x20202020, 0x20202020, 0x20202020);
        }
        Check.none("tales: 301 of 320", x, x.tales(301), 1);
        Check.none("lake: 321 of 320", x, x.lake(321), 1);
        Check.due("the tape stays", x.feed(0, 0, 0, 0, 0), 340);
        Check.well("tales: 300", x, x.tales(300), 0);
        Check.due("the tape is empty then", x.feed(0, 0, 0, 0, 0), 20);
    }

    private static void cells() {
        for (int what = 0; what < 5; what++) {
            int w = what;
            refuse("ice: a SHORE where ICE is asked for", 1, x -> x.ice(0, w));
            refuse("ice: the other SHORE", 1, x -> x.ice(3, w));
        }
        for (int k : new int[] {2, -1, Integer.MIN_VALUE, Integer.MAX_VALUE}) {
            refuse("routeAt: no such, " + k, 6, x -> x.routeAt(1, k));
        }
        refuse("routeAt: without a ROUTE", 6, x -> x.routeAt(0, 0));
        refuse("routeAt: of a WET one", 6, x -> x.routeAt(2, 0));
        refuse("routeAt: no such WALKER, ahead of no such CELL", 1, x -> x.routeAt(5, 9));
        for (int c = 0; c < Scene.CELLS; c++) {
            int cell = c;
            refuse("way: one and itself", 1, x -> x.way(cell, cell));
            refuse("beside: one and itself", 1, x -> x.beside(cell, cell));
            deny("hew: one and itself", 1, x -> x.hew(cell, cell, true));
            deny("hew: one and itself, shut", 1, x -> x.hew(cell, cell, false));
        }
        deny("hew: a WAY that is", 7, x -> x.hew(1, 0, true));
        deny("hew: no WAY that is not", 7, x -> x.hew(0, 3, false));
    }

    private static void sends() {
        refuse("send: 1 ahead of 2", 1, x -> x.send(0, 1, 21));
        refuse("send: MISSING", 2, x -> x.send(0, 1, 20));
        refuse("send: MISSING, ahead of WET", 2, x -> x.send(2, 1, 1));
        refuse("send: too few numbers", 3, x -> x.send(0, 0, 4));
        refuse("send: of an empty row", 3, x -> x.send(0, 3, 1));
        refuse("send: too few, ahead of no CELL", 3, x -> x.send(0, 2, 2));
        refuse("send: no CELL", 5, x -> x.send(0, 2, 1));
        refuse("send: no CELL, ahead of WET", 5, x -> x.send(2, 2, 1));
        refuse("send: no CELL, ahead of a ROUTE", 5, x -> x.send(1, 2, 1));
        refuse("send: WET", 7, x -> x.send(2, 0, 1));
        refuse("send: a ROUTE", 7, x -> x.send(1, 0, 1));
        refuse("send: no such WAY from where he is", 7, x -> x.send(3, 0, 1));
        refuse("sendTo: WET", 7, x -> x.sendTo(2, 0));
        refuse("sendTo: WET, ahead of no WAY", 7, x -> x.sendTo(2, 4));
        refuse("sendTo: WET, and is there", 7, x -> x.sendTo(2, 5));
        refuse("sendTo: a ROUTE", 7, x -> x.sendTo(1, 0));
        refuse("sendTo: a ROUTE, ahead of no WAY", 7, x -> x.sendTo(1, 4));
        refuse("sendTo: is there", 7, x -> x.sendTo(0, 0));
        refuse("sendTo: no WAY to where no WAY leads", 6, x -> x.sendTo(0, 4));
        refuse("sendTo: no WAY into BROKEN ICE", 6, x -> x.sendTo(4, 5));
        refuse("sendTo: no WAY that BEARS him", 6, x -> x.sendTo(0, 3));
    }

    private static void walking() {
        refuse("halt: no ROUTE", 7, x -> x.halt(0));
        refuse("halt: WET", 7, x -> x.halt(2));
        refuse("rescue: not WET", 7, x -> x.rescue(0));
        refuse("rescue: not WET, with a ROUTE", 7, x -> x.rescue(1));
        refuse("melt: a SHORE", 1, x -> x.melt(0));
        refuse("melt: the other SHORE", 1, x -> x.melt(3));
        refuse("melt: it is BROKEN", 7, x -> x.melt(5));
        refuse("mark: a fourth", 4, x -> x.mark());
    }

    private static void ways() {
        refuse("far: no WAY", 6, x -> x.far(0, 4));
        refuse("wayAt: no WAY", 6, x -> x.wayAt(0, 4, 0));
        refuse("wayAt: is there", 6, x -> x.wayAt(0, 0, 0));
        for (int k : new int[] {2, -1, Integer.MIN_VALUE, Integer.MAX_VALUE}) {
            refuse("wayAt: no such, " + k, 6, x -> x.wayAt(3, 3, k));
            refuse("wayAt: no such one of two, " + k, 6, x -> x.wayAt(1, 3, k));
            refuse("surestAt: no such one of two, " + k, 6, x -> x.surestAt(1, 3, k));
        }
        refuse("surest: is there", 1, x -> x.surest(1, 1));
        refuse("surest: is there, a WET one", 1, x -> x.surest(2, 5));
        refuse("surestFar: is there", 1, x -> x.surestFar(1, 1));
        refuse("surestAt: is there", 1, x -> x.surestAt(1, 1, 0));
        refuse("surest: no way at all", 6, x -> x.surest(0, 4));
        refuse("surestFar: no way at all", 6, x -> x.surestFar(0, 4));
        refuse("surestAt: no way at all", 6, x -> x.surestAt(0, 4, 0));
        refuse("cut: is there", 1, x -> x.cut(1, 1));
        refuse("cutSet: is there", 1, x -> x.cutSet(1, 1));
        refuse("cut: next to him", 6, x -> x.cut(1, 2));
        refuse("cutSet: next to him", 6, x -> x.cutSet(1, 2));
        refuse("heaviest: no ROUTE", 6, x -> x.heaviest(0));
        refuse("heaviest: WET", 6, x -> x.heaviest(2));
        refuse("ready: a SHORE", 1, x -> x.ready(3, 0));
        refuse("ready: BROKEN, never", 6, x -> x.ready(5, 0));
        refuse("ready: not in 20", 6, x -> x.ready(2, 10));
        refuse("ready: what is due is not enough", 6, x -> x.ready(1, 11));
    }

    private static void queues() {
        refuse("queue: n, ahead of MISSING", 1, x -> x.queue(1, 1, 13));
        refuse("queue: the set, ahead of MISSING", 1, x -> x.queue(32, 1, 1));
        refuse("queue: five WALKERS", 1, x -> x.queue(31, 0, 1));
        refuse("queue: MISSING", 2, x -> x.queue(1, 1, 12));
        refuse("queue: too few numbers", 3, x -> x.queue(1, 0, 4));
        refuse("queue: of an empty row", 3, x -> x.queue(1, 3, 1));
        refuse("queue: too few, ahead of no CELL", 3, x -> x.queue(1, 2, 2));
        refuse("queue: no CELL", 5, x -> x.queue(1, 2, 1));
        refuse("queue: no CELL, ahead of two SHORES", 5, x -> x.queue(9, 2, 1));
        refuse("queue: in two SHORES", 7, x -> x.queue(9, 0, 1));
        refuse("queue: one in ICE", 7, x -> x.queue(3, 0, 1));
        refuse("queue: one WET", 7, x -> x.queue(5, 0, 1));
        refuse("queue: no such WAY", 7, x -> x.queue(8, 0, 1));
        refuse("queue: it can't be", 6, x -> x.queue(1, 0, 3));
        refuse("queueAt: what, ahead of no such", 1, x -> x.queueAt(9, 2));
        for (int k : new int[] {2, -1, Integer.MIN_VALUE, Integer.MAX_VALUE}) {
            refuse("queueAt: no such, " + k, 6, x -> x.queueAt(k, 0));
            refuse("queueAt: no such GAP, " + k, 6, x -> x.queueAt(k, 1));
        }
        refuse("halves: none of them", 1, x -> x.halves(0));
        refuse("half: none of them", 1, x -> x.half(0));
        refuse("groups: none of them", 1, x -> x.groups(0, 9));
        refuse("groups: none of them, ahead of one too heavy", 1, x -> x.groups(33, 1));
        refuse("groups: one is heavier alone", 6, x -> x.groups(31, 4));
        refuse("tryFirst: n is 0", 6, x -> x.tryFirst(0, 1));
        refuse("suspects: a SHORE in it", 1, x -> x.suspects(3));
        refuse("suspects: a SHORE alone", 1, x -> x.suspects(8));
        deny("odds: a SHORE", 1, x -> x.odds(3, 0, 0, 0, 0));
        refuse("bestDay: a SHORE", 1, x -> x.bestDay(3, 0, 0, 0, 0));
        deny("meanIn: a SHORE", 1, x -> x.meanIn(3, 0, 0, 0));
    }

    /** What is asked of a SHORE: one who has a ROUTE still stands there. */
    private static void queuesThatAreRefused() {
        GooseIce x = Check.on("shore s;ice a bears 9;way s a;walker v weighs 1 at s;walker w weighs 1 at s;");
        Check.tray(x, 0, 1, 1);
        x.sendTo(1, 1);
        Check.none("queue: one has a ROUTE", x, x.queue(3, 0, 1), 7);
        Check.none("queue: a ROUTE, ahead of what can't be", x, x.queue(2, 0, 1), 7);
        Check.none("queue: a CELL and itself is no WAY", x, x.queue(1, 0, 2), 7);
        Check.well("queue of the other one", x, x.queue(1, 0, 1), 1);
        x.melt(1);
        Check.none("queue into BROKEN ICE: it can't be", x, x.queue(1, 0, 1), 6);
        Check.none("queue: a ROUTE, ahead of BROKEN ICE", x, x.queue(2, 0, 1), 7);
    }

    private static void refuseNew(String call, int status, Ask ask) {
        GooseIce x = new GooseIce();
        Check.none(call, x, ask.of(x), status);
        Check.same(call, Scene.look(x), untouchedNew);
    }

    private static void newObject() {
        refuseNew("weakest: no ICE", 6, x -> x.weakest());
        refuseNew("live: no TALES", 6, x -> x.live(0));
        refuseNew("live: a seed that can't be, ahead of no TALES", 1, x -> x.live(10000));
        refuseNew("lived: there was none", 6, x -> x.lived(4));
        refuseNew("lived: what, ahead of none", 1, x -> x.lived(5));
        refuseNew("mean: no TALES", 6, x -> x.mean(0, 1) ? 0 : -1);
        refuseNew("mean: a seed that can't be, ahead of no TALES", 1, x -> x.mean(9999, 2) ? 0 : -1);
        refuseNew("undo: no MARK", 6, x -> x.undo());
        refuseNew("queueAt: no QUEUE", 6, x -> x.queueAt(0, 0));
        refuseNew("queue: no WALKERS", 1, x -> x.queue(1, 0, 1));
        refuseNew("suspects: no CELLS", 1, x -> x.suspects(1));
        refuseNew("halves: no WALKERS", 1, x -> x.halves(1));
        refuseNew("within: no CELLS", 1, x -> x.within(0));
        refuseNew("reach: no WALKERS", 1, x -> x.reach(0));
        refuseNew("ice: no CELLS", 1, x -> x.ice(0, 0));
        refuseNew("read: MISSING", 2, x -> x.read(3, 0));
        refuseNew("lake: an empty tape", 1, x -> x.lake(1));
        refuseNew("tales: an empty tape", 1, x -> x.tales(1));
    }
}
