import java.util.Arrays;

/** A lake of ice that bears so much, the walkers on it, and what may be asked of both (see DOC.md). */
public final class GooseIce {
    public static final int NONE = -1;

    private static final int TRAYS = 4;
    private static final int PLACES = 60;
    private static final int CELLS = 10;
    private static final int WALKERS = 8;
    private static final int STRIDE = 20;
    private static final int HOURS = 20;
    private static final int MARKS = 3;
    private static final int TAPE = 900;
    private static final int TALE_BYTES = 300;
    private static final int TALE_ROWS = 30;
    private static final int NESTED = 3;
    private static final int LIVED_STEPS = 300;
    private static final int LAST_STEP = 9999;
    private static final int LAST_SEED = 9999;
    private static final int MOST_BORNE = 999;
    private static final int QUEUED = 4;
    private static final int QUEUE_CELLS = 12;
    private static final int GAPS = 6;
    private static final int DAYS = 10;
    private static final int SUBSETS = 1024;
    // Above all STEPS, WEIGHTS and groups that can be.
    private static final int ENDLESS = 1000000;

    private static final int WRONG = 1;
    private static final int MISSING = 2;
    private static final int NO_PLACE = 3;
    private static final int TOO_MANY = 4;
    private static final int BAD_NUMBER = 5;
    private static final int NO_SUCH = 6;
    private static final int CANNOT_BE = 7;
    private static final int UNLIKE = 8;
    private static final int FAULTY = 9;

    private static final String RESERVED =
        "ice bears shore way beside walker weighs at worse hour better send to step frost thaw any when in wet loop end stop";
    private static final int RESERVED_WORDS = 23;
    private static final int ICE = 0;
    private static final int BEARS = 1;
    private static final int SHORE = 2;
    private static final int WAY = 3;
    private static final int BESIDE = 4;
    private static final int WALKER = 5;
    private static final int WEIGHS = 6;
    private static final int AT = 7;
    private static final int WORSE = 8;
    private static final int HOUR = 9;
    private static final int BETTER = 10;
    private static final int SEND = 11;
    private static final int TO = 12;
    private static final int STEP = 13;
    private static final int FROST = 14;
    private static final int THAW = 15;
    private static final int ANY = 16;
    private static final int WHEN = 17;
    private static final int IN = 18;
    private static final int WET = 19;
    private static final int LOOP = 20;
    private static final int END = 21;
    private static final int STOP = 22;

    private static final int TOKEN_NONE = 0;
    private static final int TOKEN_WORD = 1;
    private static final int TOKEN_NUMBER = 2;
    private static final int TOKEN_SIGN = 3;
    private static final int TOKEN_BAD = 4;

    private int status;
    private long top;
    private long bottom = 1;
    private final long[][] rows = new long[TRAYS][PLACES];
    private final int[] sorts = new int[TRAYS];
    private final int[] sizes = new int[TRAYS];
    private final int[] path = new int[STRIDE];
    private final Reader reader = new Reader();
    private final LakeText lakeText = new LakeText(reader);
    private final TalesText talesText = new TalesText(reader);
    private final Lake lake = new Lake();
    private final Lake draft = new Lake();
    private final Lake[] marks = new Lake[MARKS];
    private int markCount;
    private final Paths paths = new Paths();
    private final Queue line = new Queue();
    private final Days weather = new Days();
    private final Life life = new Life(paths);
    private final int[] livedRow = new int[5];
    private boolean everLived;

    public GooseIce() {
        Arrays.fill(sizes, NONE);
        for (int k = 0; k < MARKS; k++) {
            marks[k] = new Lake();
        }
    }

    public int status() {
        return status;
    }

    public long top() {
        return top;
    }

    public long bottom() {
        return bottom;
    }

    // ---- TRAYS

    public boolean tray(int tray, int sort, int many) {
        if (!isTray(tray) || sort < 0 || sort > 3 || many < 0 || many > PLACES) {
            return deny(WRONG);
        }
        Arrays.fill(rows[tray], 0);
        sorts[tray] = sort;
        sizes[tray] = many;
        return agree();
    }

    public boolean write(int tray, int place, long v) {
        int why = placeTrouble(tray, place);
        if (why != 0) {
            return deny(why);
        }
        rows[tray][place] = cutTo(sorts[tray], v);
        return agree();
    }

    public long read(int tray, int place) {
        int why = placeTrouble(tray, place);
        if (why != 0) {
            return refuse(why);
        }
        status = 0;
        return rows[tray][place];
    }

    public boolean pour(int from, int place, int to, int at, int many) {
        if (!isTray(from) || !isTray(to) || place < 0 || at < 0 || many < 0) {
            return deny(WRONG);
        }
        if (sizes[from] < 0 || sizes[to] < 0) {
            return deny(MISSING);
        }
        if (sorts[from] != sorts[to]) {
            return deny(UNLIKE);
        }
        // Differences, not sums: a sum of two large numbers would wrap around.
        if (many > sizes[from] || place > sizes[from] - many || many > sizes[to] || at > sizes[to] - many) {
            return deny(NO_PLACE);
        }
        System.arraycopy(rows[from], place, rows[to], at, many);
        return agree();
    }

    // ---- texts

    public int feed(int a, int b, int c, int d, int e) {
        if (!reader.hasRoom()) {
            return NONE;
        }
        reader.take(a);
        reader.take(b);
        reader.take(c);
        reader.take(d);
        reader.take(e);
        return reader.fed;
    }

    public int lake(int n) {
        if (n < 0 || n > reader.fed) {
            return refuse(WRONG);
        }
        reader.open(n);
        lakeText.parse(draft);
        if (reader.fault != 0) {
            return refuse(FAULTY);
        }
        lake.copyFrom(draft);
        lake.tales.clear();
        return answer(lake.cells);
    }

    public int tales(int n) {
        if (n < 0 || n > reader.fed || n > TALE_BYTES) {
            return refuse(WRONG);
        }
        reader.open(n);
        talesText.parse(lake, draft.tales);
        if (reader.fault != 0) {
            return refuse(FAULTY);
        }
        lake.tales.copyFrom(draft.tales);
        return answer(lake.tales.count);
    }

    public int fault(int what) {
        if (what == 0) {
            return reader.fault;
        }
        return what == 1 ? reader.faultPlace : NONE;
    }

    public int told(int what) {
        switch (what) {
            case 0: return answer(lake.cells);
            case 1: return answer(lake.crew.count);
            case 2: return answer(lake.worse);
            case 3: return answer(lake.hour);
            case 4: return answer(lake.better);
            case 5: return answer(lake.time);
            case 6: return answer(lake.shores);
            case 7: return answer(lake.sheet.broken);
            case 8: return answer(lake.crew.wet);
            case 9: return answer(lake.crew.routed);
            default: return refuse(WRONG);
        }
    }

    public int ice(int cell, int what) {
        if (!lake.isIce(cell)) {
            return refuse(WRONG);
        }
        switch (what) {
            case 0: return answer(lake.sheet.borne[cell]);
            case 1: return answer(lake.strength(cell));
            case 2: return answer(lake.sheet.recent[cell]);
            case 3: return answer(lake.load(cell, 0));
            case 4: return answer(lake.sheet.most[cell]);
            default: return refuse(WRONG);
        }
    }

    public int walker(int walker, int what) {
        if (!lake.crew.has(walker)) {
            return refuse(WRONG);
        }
        switch (what) {
            case 0: return answer(lake.crew.weight[walker]);
            case 1: return answer(lake.crew.at[walker]);
            case 2: return answer(lake.crew.remaining(walker));
            case 3: return answer(lake.crew.made[walker]);
            default: return refuse(WRONG);
        }
    }

    public int routeAt(int walker, int k) {
        if (!lake.crew.has(walker)) {
            return refuse(WRONG);
        }
        if (k < 0 || k >= lake.crew.remaining(walker)) {
            return refuse(NO_SUCH);
        }
        return answer(lake.crew.ahead(walker, k));
    }

    public int way(int a, int b) {
        if (!lake.isPair(a, b)) {
            return refuse(WRONG);
        }
        return answer(lake.ways[a] >> b & 1);
    }

    public int beside(int a, int b) {
        if (!lake.isPair(a, b)) {
            return refuse(WRONG);
        }
        return answer(lake.besides[a] >> b & 1);
    }

    public int within(int cell) {
        if (!lake.isCell(cell)) {
            return refuse(WRONG);
        }
        return answer(lake.inside[cell]);
    }

    // ---- walking

    public int send(int walker, int tray, int n) {
        if (!lake.crew.has(walker) || !isTray(tray) || n < 1 || n > STRIDE) {
            return refuse(WRONG);
        }
        int why = takePath(tray, n);
        if (why != 0) {
            return refuse(why);
        }
        if (lake.crew.isBusy(walker) || !lake.leads(lake.crew.at[walker], path, n)) {
            return refuse(CANNOT_BE);
        }
        lake.crew.aim(walker, path, n);
        return answer(n);
    }

    public int sendTo(int walker, int cell) {
        if (!lake.crew.has(walker) || !lake.isCell(cell)) {
            return refuse(WRONG);
        }
        if (lake.crew.isBusy(walker) || lake.crew.at[walker] == cell) {
            return refuse(CANNOT_BE);
        }
        if (!findWay(walker, cell)) {
            return refuse(NO_SUCH);
        }
        lake.crew.aim(walker, paths.found, paths.length);
        return answer(paths.length);
    }

    public int halt(int walker) {
        if (!lake.crew.has(walker)) {
            return refuse(WRONG);
        }
        int had = lake.crew.remaining(walker);
        if (had == 0) {
            return refuse(CANNOT_BE);
        }
        lake.crew.routed &= ~(1 << walker);
        return answer(had);
    }

    public int step(int many) {
        if (many < 1 || many > 20) {
            return refuse(WRONG);
        }
        if (lake.time + many > LAST_STEP) {
            return refuse(TOO_MANY);
        }
        return answer(lake.walkOn(many));
    }

    public int frost(int n) {
        if (n < 1 || n > 20) {
            return refuse(WRONG);
        }
        return answer(lake.freeze(n));
    }

    public int thaw(int n) {
        if (n < 1 || n > 20) {
            return refuse(WRONG);
        }
        lake.soften(n);
        return answer(lake.countSpent());
    }

    public int rescue(int walker) {
        if (!lake.crew.has(walker)) {
            return refuse(WRONG);
        }
        if ((lake.crew.wet >> walker & 1) == 0 || lake.shores == 0) {
            return refuse(CANNOT_BE);
        }
        lake.bringAshore(walker);
        return answer(Integer.bitCount(lake.crew.wet));
    }

    public int melt(int cell) {
        if (!lake.isIce(cell)) {
            return refuse(WRONG);
        }
        if ((lake.sheet.broken >> cell & 1) != 0) {
            return refuse(CANNOT_BE);
        }
        lake.crack(1 << cell);
        return answer(Integer.bitCount(lake.sheet.broken));
    }

    public boolean weigh(int walker, int weight) {
        if (!lake.crew.has(walker) || weight < 1 || weight > 99) {
            return deny(WRONG);
        }
        lake.crew.weight[walker] = weight;
        return agree();
    }

    public boolean hew(int a, int b, boolean open) {
        if (!lake.isPair(a, b)) {
            return deny(WRONG);
        }
        boolean isOpen = (lake.ways[a] >> b & 1) != 0;
        if (isOpen == open) {
            return deny(CANNOT_BE);
        }
        lake.ways[a] ^= 1 << b;
        lake.ways[b] ^= 1 << a;
        return agree();
    }

    // ---- ways

    public int bears(int walker, int cell) {
        if (!lake.crew.has(walker) || !lake.isCell(cell)) {
            return refuse(WRONG);
        }
        return answer(lake.carrying(walker) >> cell & 1);
    }

    public int margin(int walker, int cell) {
        if (!lake.crew.has(walker) || !lake.isCell(cell)) {
            return refuse(WRONG);
        }
        return answer(lake.spare(walker, cell));
    }

    public int far(int walker, int cell) {
        if (!lake.crew.has(walker) || !lake.isCell(cell)) {
            return refuse(WRONG);
        }
        return findWay(walker, cell) ? answer(paths.length) : refuse(NO_SUCH);
    }

    public int wayAt(int walker, int cell, int k) {
        if (!lake.crew.has(walker) || !lake.isCell(cell)) {
            return refuse(WRONG);
        }
        if (!findWay(walker, cell) || !paths.has(k)) {
            return refuse(NO_SUCH);
        }
        return answer(paths.found[k]);
    }

    public int surest(int walker, int cell) {
        if (!isElsewhere(walker, cell)) {
            return refuse(WRONG);
        }
        return paths.findSurest(lake, walker, cell) ? answer(paths.least) : refuse(NO_SUCH);
    }

    public int surestFar(int walker, int cell) {
        if (!isElsewhere(walker, cell)) {
            return refuse(WRONG);
        }
        return paths.findSurest(lake, walker, cell) ? answer(paths.length) : refuse(NO_SUCH);
    }

    public int surestAt(int walker, int cell, int k) {
        if (!isElsewhere(walker, cell)) {
            return refuse(WRONG);
        }
        if (!paths.findSurest(lake, walker, cell) || !paths.has(k)) {
            return refuse(NO_SUCH);
        }
        return answer(paths.found[k]);
    }

    public int reach(int walker) {
        if (!lake.crew.has(walker)) {
            return refuse(WRONG);
        }
        return answer(lake.flood(lake.crew.at[walker], lake.carrying(walker)));
    }

    public int cut(int walker, int cell) {
        if (!isElsewhere(walker, cell)) {
            return refuse(WRONG);
        }
        int set = paths.fewestWithout(lake, walker, cell);
        return set < 0 ? refuse(NO_SUCH) : answer(Integer.bitCount(set));
    }

    public int cutSet(int walker, int cell) {
        if (!isElsewhere(walker, cell)) {
            return refuse(WRONG);
        }
        int set = paths.fewestWithout(lake, walker, cell);
        return set < 0 ? refuse(NO_SUCH) : answer(set);
    }

    public int heaviest(int walker) {
        if (!lake.crew.has(walker)) {
            return refuse(WRONG);
        }
        int least = lake.leastOnRoute(walker);
        return least < 0 ? refuse(NO_SUCH) : answer(least);
    }

    public int weakest() {
        int cell = lake.frailest();
        return cell < 0 ? refuse(NO_SUCH) : answer(cell);
    }

    public int tooHeavy(int cell) {
        if (!lake.isCell(cell)) {
            return refuse(WRONG);
        }
        return answer(lake.notCarried(cell));
    }

    public int ready(int cell, int much) {
        if (!lake.isIce(cell) || much < 0 || much > MOST_BORNE) {
            return refuse(WRONG);
        }
        int steps = lake.stepsTillStrong(cell, much);
        return steps < 0 ? refuse(NO_SUCH) : answer(steps);
    }

    // ---- who goes when

    public int queue(int set, int tray, int n) {
        if (!lake.crew.hasSet(set) || Integer.bitCount(set) > QUEUED || !isTray(tray) || n < 1 || n > QUEUE_CELLS) {
            return refuse(WRONG);
        }
        int why = takePath(tray, n);
        if (why != 0) {
            return refuse(why);
        }
        int shore = lake.sharedShore(set);
        if (shore < 0 || !lake.leads(shore, path, n)) {
            return refuse(CANNOT_BE);
        }
        int steps = line.soonest(lake, set, path, n);
        return steps < 0 ? refuse(NO_SUCH) : answer(steps);
    }

    public int queueAt(int k, int what) {
        if (what < 0 || what > 1) {
            return refuse(WRONG);
        }
        if (k < 0 || k >= line.length) {
            return refuse(NO_SUCH);
        }
        return answer(what == 0 ? line.bestOrder[k] : line.bestGaps[k]);
    }

    public int holds() {
        draft.copyFrom(lake);
        for (int k = 1; k <= STRIDE && draft.crew.routed != 0; k++) {
            if (draft.walkOnce() != 0) {
                return answer(k);
            }
        }
        return answer(0);
    }

    public int halves(int set) {
        if (!lake.crew.hasSet(set)) {
            return refuse(WRONG);
        }
        int part = lake.crew.evenPart(set);
        return answer(Math.abs(lake.crew.weightOf(set) - 2 * lake.crew.weightOf(part)));
    }

    public int half(int set) {
        if (!lake.crew.hasSet(set)) {
            return refuse(WRONG);
        }
        return answer(lake.crew.evenPart(set));
    }

    public int groups(int set, int most) {
        if (!lake.crew.hasSet(set) || most < 1 || most > 999) {
            return refuse(WRONG);
        }
        int fewest = lake.crew.fewestGroups(set, most, paths.subsets);
        return fewest < 0 ? refuse(NO_SUCH) : answer(fewest);
    }

    public int trials(int n, int b) {
        if (!canTry(n, b)) {
            return refuse(WRONG);
        }
        return answer(fewestTrials(n, b));
    }

    public int tryFirst(int n, int b) {
        if (!canTry(n, b)) {
            return refuse(WRONG);
        }
        if (n == 0) {
            return refuse(NO_SUCH);
        }
        // If the first one holds, all heavier ones must be told apart by one trial less.
        long rest = toldApart(fewestTrials(n, b) - 1, b);
        return answer((int) Math.max(1, n - rest));
    }

    public int suspects(int set) {
        if (set < 0 || set >= 1 << lake.cells || (set & lake.shores) != 0) {
            return refuse(WRONG);
        }
        return answer(paths.whoMayHaveCracked(lake, set));
    }

    // ---- days

    public boolean odds(int cell, int much, int days, int f, int t) {
        if (!lake.isIce(cell) || much < 0 || much > MOST_BORNE || !Days.canBe(days, f, t)) {
            return deny(WRONG);
        }
        weather.spread(lake.sheet.borne[cell], days, f, t);
        tell(weather.atLeast(much), Days.whole(days));
        return agree();
    }

    public int bestDay(int cell, int much, int days, int f, int t) {
        if (!lake.isIce(cell) || much < 0 || much > MOST_BORNE || !Days.canBe(days, f, t)) {
            return refuse(WRONG);
        }
        int best = 0;
        long greatest = NONE;
        for (int d = 0; d <= days; d++) {
            weather.spread(lake.sheet.borne[cell], d, f, t);
            long scaled = weather.atLeast(much) * Days.whole(DAYS - d);
            if (scaled > greatest) {
                greatest = scaled;
                best = d;
            }
        }
        return answer(best);
    }

    public boolean meanIn(int cell, int days, int f, int t) {
        if (!lake.isIce(cell) || !Days.canBe(days, f, t)) {
            return deny(WRONG);
        }
        weather.spread(lake.sheet.borne[cell], days, f, t);
        tell(weather.sum(), Days.whole(days));
        return agree();
    }

    // ---- TALES

    public int live(int seed) {
        if (seed < 0 || seed > LAST_SEED) {
            return refuse(WRONG);
        }
        if (!lake.tales.there) {
            return refuse(NO_SUCH);
        }
        int done = life.run(lake, lake.tales, seed);
        livedRow[0] = life.missed;
        livedRow[1] = life.walked;
        livedRow[2] = life.sends;
        livedRow[3] = life.broke;
        livedRow[4] = life.left;
        everLived = true;
        return answer(done);
    }

    public int lived(int what) {
        if (what < 0 || what > 4) {
            return refuse(WRONG);
        }
        return everLived ? answer(livedRow[what]) : refuse(NO_SUCH);
    }

    public boolean mean(int seed, int many) {
        if (seed < 0 || seed > LAST_SEED || many < 1 || many > 20 || seed + many - 1 > LAST_SEED) {
            return deny(WRONG);
        }
        if (!lake.tales.there) {
            return deny(NO_SUCH);
        }
        long wet = 0;
        for (int k = 0; k < many; k++) {
            draft.copyFrom(lake);
            life.run(draft, lake.tales, seed + k);
            int soaked = Integer.bitCount(draft.crew.wet);
            // Without a draw the seed says nothing, so all other runs end like this one.
            if (!life.drew) {
                wet += (long) soaked * (many - k);
                break;
            }
            wet += soaked;
        }
        tell(wet, many);
        return agree();
    }

    // ---- MARKS

    public int mark() {
        if (markCount >= MARKS) {
            return refuse(TOO_MANY);
        }
        marks[markCount].copyFrom(lake);
        marks[markCount].tales.copyFrom(lake.tales);
        markCount++;
        return answer(markCount);
    }

    public int undo() {
        if (markCount < 1) {
            return refuse(NO_SUCH);
        }
        markCount--;
        lake.copyFrom(marks[markCount]);
        lake.tales.copyFrom(marks[markCount].tales);
        return answer(markCount);
    }

    // ---- what the calls share

    private int answer(int value) {
        status = 0;
        return value;
    }

    private int refuse(int why) {
        status = why;
        return NONE;
    }

    private boolean agree() {
        status = 0;
        return true;
    }

    private boolean deny(int why) {
        status = why;
        return false;
    }

    private void tell(long over, long under) {
        long a = over;
        long b = under;
        // Euclid on numbers below 2^60 is through in fewer than 100 rounds.
        for (int k = 0; k < 100 && b != 0; k++) {
            long rest = a % b;
            a = b;
            b = rest;
        }
        top = a == 0 ? 0 : over / a;
        bottom = a == 0 ? 1 : under / a;
    }

    private static boolean isTray(int tray) {
        return tray >= 0 && tray < TRAYS;
    }

    private int placeTrouble(int tray, int place) {
        if (!isTray(tray)) {
            return WRONG;
        }
        if (sizes[tray] < 0) {
            return MISSING;
        }
        return place < 0 || place >= sizes[tray] ? NO_PLACE : 0;
    }

    private static long cutTo(int sort, long v) {
        switch (sort) {
            case 0: return (byte) v;
            case 1: return (short) v;
            case 2: return (int) v;
            default: return v;
        }
    }

    private int takePath(int tray, int n) {
        if (sizes[tray] < 0) {
            return MISSING;
        }
        if (n > sizes[tray] || n > STRIDE) {
            return NO_PLACE;
        }
        for (int k = 0; k < n; k++) {
            long v = rows[tray][k];
            if (v < 0 || v >= lake.cells) {
                return BAD_NUMBER;
            }
            path[k] = (int) v;
        }
        return 0;
    }

    private boolean findWay(int walker, int cell) {
        return paths.find(lake, lake.crew.at[walker], cell, lake.carrying(walker));
    }

    private boolean isElsewhere(int walker, int cell) {
        return lake.crew.has(walker) && lake.isCell(cell) && lake.crew.at[walker] != cell;
    }

    private static boolean canTry(int n, int b) {
        return n >= 0 && n <= 60 && b >= 1 && b <= 6;
    }

    private static int fewestTrials(int n, int b) {
        int t = 0;
        while (t < 60 && toldApart(t, b) < n) {
            t++;
        }
        return t;
    }

    // How many weights t trials with b breaks tell apart: the ways to choose 1 to b of the t.
    private static long toldApart(int t, int b) {
        long sum = 0;
        long choices = 1;
        for (int k = 1; k <= b; k++) {
            choices = choices * Math.max(0, t - k + 1) / k;
            sum += choices;
        }
        return sum;
    }

    private static int firstOf(int set) {
        return Integer.bitCount((set & -set) - 1);
    }

    /** What the ICE of a LAKE bears, and who came into it in the last HOUR. */
    private static final class Ice {
        private final int[] borne = new int[CELLS];
        private final int[] most = new int[CELLS];
        private final int[] recent = new int[CELLS];
        // A ring of HOUR slots, each with a count for every CELL: a slot comes round just when it is due.
        private final int[] came = new int[HOURS * CELLS];
        private int waiting;
        private int broken;

        private void clear() {
            Arrays.fill(borne, 0);
            Arrays.fill(most, 0);
            Arrays.fill(recent, 0);
            Arrays.fill(came, 0);
            waiting = 0;
            broken = 0;
        }

        private void copyFrom(Ice other) {
            System.arraycopy(other.borne, 0, borne, 0, CELLS);
            System.arraycopy(other.most, 0, most, 0, CELLS);
            System.arraycopy(other.recent, 0, recent, 0, CELLS);
            System.arraycopy(other.came, 0, came, 0, HOURS * CELLS);
            waiting = other.waiting;
            broken = other.broken;
        }

        private void enter(int cell, int slot) {
            came[slot * CELLS + cell]++;
            recent[cell]++;
            waiting++;
        }

        private void heal(int slot, int better) {
            if (waiting == 0) {
                return;
            }
            for (int c = 0; c < CELLS; c++) {
                int due = came[slot * CELLS + c];
                came[slot * CELLS + c] = 0;
                recent[c] -= due;
                waiting -= due;
                borne[c] = Math.min(MOST_BORNE, borne[c] + better * due);
            }
        }

        private void shatter(int cell) {
            broken |= 1 << cell;
            borne[cell] = 0;
            waiting -= recent[cell];
            recent[cell] = 0;
            for (int slot = 0; slot < HOURS; slot++) {
                came[slot * CELLS + cell] = 0;
            }
        }
    }

    /** The WALKERS of a LAKE. */
    private static final class Crew {
        private final long[] names = new long[WALKERS];
        private final int[] weight = new int[WALKERS];
        private final int[] at = new int[WALKERS];
        private final int[] made = new int[WALKERS];
        private final int[] left = new int[WALKERS];
        private final int[] head = new int[WALKERS];
        private final int[] route = new int[WALKERS * STRIDE];
        private int count;
        private int wet;
        private int routed;

        private void clear() {
            count = 0;
            wet = 0;
            routed = 0;
            Arrays.fill(made, 0);
        }

        private void copyFrom(Crew other) {
            System.arraycopy(other.names, 0, names, 0, WALKERS);
            System.arraycopy(other.weight, 0, weight, 0, WALKERS);
            System.arraycopy(other.at, 0, at, 0, WALKERS);
            System.arraycopy(other.made, 0, made, 0, WALKERS);
            System.arraycopy(other.left, 0, left, 0, WALKERS);
            System.arraycopy(other.head, 0, head, 0, WALKERS);
            System.arraycopy(other.route, 0, route, 0, WALKERS * STRIDE);
            count = other.count;
            wet = other.wet;
            routed = other.routed;
        }

        private boolean has(int walker) {
            return walker >= 0 && walker < count;
        }

        private boolean hasSet(int set) {
            return set > 0 && set < 1 << count;
        }

        private int named(long name) {
            for (int w = 0; w < count; w++) {
                if (names[w] == name) {
                    return w;
                }
            }
            return NONE;
        }

        private boolean isBusy(int walker) {
            return ((wet | routed) >> walker & 1) != 0;
        }

        private int weightOf(int set) {
            int sum = 0;
            for (int w = 0; w < count; w++) {
                sum += (set >> w & 1) * weight[w];
            }
            return sum;
        }

        private void aim(int walker, int[] row, int n) {
            int many = Math.min(n, Math.min(row.length, STRIDE));
            if (many < 1) {
                return;
            }
            System.arraycopy(row, 0, route, walker * STRIDE, many);
            head[walker] = 0;
            left[walker] = many;
            routed |= 1 << walker;
        }

        private int ahead(int walker, int k) {
            int place = head[walker] + k;
            return place >= 0 && place < STRIDE ? route[walker * STRIDE + place] : NONE;
        }

        private void advance(int walker, int cell) {
            at[walker] = cell;
            made[walker]++;
            head[walker]++;
            left[walker]--;
            if (left[walker] <= 0) {
                routed &= ~(1 << walker);
            }
        }

        private int remaining(int walker) {
            return (routed >> walker & 1) != 0 ? left[walker] : 0;
        }

        private void soak(int set) {
            wet |= set;
            routed &= ~set;
        }

        private int evenPart(int set) {
            int whole = weightOf(set);
            int lead = set & -set;
            int rest = set ^ lead;
            int best = set;
            int least = whole;
            int sub = 0;
            // Ascending subsets of the rest: the first of several is the least as a number.
            for (int k = 0; k < 1 << WALKERS; k++) {
                int apart = Math.abs(whole - 2 * weightOf(lead | sub));
                if (apart < least) {
                    least = apart;
                    best = lead | sub;
                }
                sub = (sub - rest) & rest;
                if (sub == 0) {
                    break;
                }
            }
            return best;
        }

        // row[s]: the fewest groups that take the set s, times 1,000, and the least weight of the last one.
        private int fewestGroups(int set, int most, int[] row) {
            if (row.length < 1 << WALKERS) {
                return NONE;
            }
            for (int w = 0; w < count; w++) {
                if ((set >> w & 1) != 0 && weight[w] > most) {
                    return NONE;
                }
            }
            row[0] = 1000;
            for (int s = 1; s < 1 << count; s++) {
                if ((s & ~set) == 0) {
                    row[s] = bestLast(s, most, row);
                }
            }
            return row[set] / 1000;
        }

        private int bestLast(int s, int most, int[] row) {
            int best = ENDLESS;
            for (int w = 0; w < count; w++) {
                if ((s >> w & 1) != 0) {
                    int before = row[s ^ 1 << w];
                    boolean fits = before % 1000 + weight[w] <= most;
                    int with = fits ? before + weight[w] : (before / 1000 + 1) * 1000 + weight[w];
                    best = Math.min(best, with);
                }
            }
            return best;
        }
    }

    /** The STEPS of a text of TALES, each a row. */
    private static final class Tales {
        private final int[] op = new int[TALE_ROWS];
        private final int[] test = new int[TALE_ROWS];
        private final int[] a = new int[TALE_ROWS];
        private final int[] b = new int[TALE_ROWS];
        private final int[] c = new int[TALE_ROWS];
        // The row behind the end of a when or loop.
        private final int[] past = new int[TALE_ROWS];
        private int count;
        private boolean there;

        private void clear() {
            count = 0;
            there = false;
        }

        private void copyFrom(Tales other) {
            System.arraycopy(other.op, 0, op, 0, TALE_ROWS);
            System.arraycopy(other.test, 0, test, 0, TALE_ROWS);
            System.arraycopy(other.a, 0, a, 0, TALE_ROWS);
            System.arraycopy(other.b, 0, b, 0, TALE_ROWS);
            System.arraycopy(other.c, 0, c, 0, TALE_ROWS);
            System.arraycopy(other.past, 0, past, 0, TALE_ROWS);
            count = other.count;
            there = other.there;
        }
    }

    /** A LAKE with all that became of it. */
    private static final class Lake {
        private final long[] names = new long[CELLS];
        private final int[] ways = new int[CELLS];
        private final int[] besides = new int[CELLS];
        private final int[] inside = new int[CELLS];
        private final int[] loads = new int[CELLS];
        private final Ice sheet = new Ice();
        private final Crew crew = new Crew();
        private final Tales tales = new Tales();
        private int cells;
        private int shores;
        private int worse = 2;
        private int hour = 4;
        private int better = 1;
        private int time;

        private void clear() {
            Arrays.fill(ways, 0);
            Arrays.fill(besides, 0);
            Arrays.fill(inside, 0);
            sheet.clear();
            crew.clear();
            cells = 0;
            shores = 0;
            worse = 2;
            hour = 4;
            better = 1;
            time = 0;
        }

        // The TALES are no part of this: who tries a LAKE out needs no copy of them.
        private void copyFrom(Lake other) {
            System.arraycopy(other.names, 0, names, 0, CELLS);
            System.arraycopy(other.ways, 0, ways, 0, CELLS);
            System.arraycopy(other.besides, 0, besides, 0, CELLS);
            System.arraycopy(other.inside, 0, inside, 0, CELLS);
            sheet.copyFrom(other.sheet);
            crew.copyFrom(other.crew);
            cells = other.cells;
            shores = other.shores;
            worse = other.worse;
            hour = other.hour;
            better = other.better;
            time = other.time;
        }

        private void addCell(long name, boolean isShore, int much) {
            if (cells >= CELLS) {
                return;
            }
            names[cells] = name;
            sheet.borne[cells] = isShore ? 0 : much;
            shores |= isShore ? 1 << cells : 0;
            cells++;
        }

        private void addWalker(long name, int weight, int cell) {
            int w = crew.count;
            if (w >= WALKERS || !isCell(cell)) {
                return;
            }
            crew.names[w] = name;
            crew.weight[w] = weight;
            crew.at[w] = cell;
            inside[cell] |= 1 << w;
            crew.count++;
        }

        private boolean isCell(int cell) {
            return cell >= 0 && cell < cells;
        }

        private boolean isShore(int cell) {
            return isCell(cell) && (shores >> cell & 1) != 0;
        }

        private boolean isIce(int cell) {
            return isCell(cell) && (shores >> cell & 1) == 0;
        }

        private boolean isPair(int a, int b) {
            return isCell(a) && isCell(b) && a != b;
        }

        private int named(long name) {
            for (int c = 0; c < cells; c++) {
                if (names[c] == name) {
                    return c;
                }
            }
            return NONE;
        }

        // ICE that can still break.
        private int whole() {
            return ((1 << cells) - 1) & ~shores & ~sheet.broken;
        }

        private int strength(int cell) {
            return Math.max(0, sheet.borne[cell] - worse * sheet.recent[cell]);
        }

        private int load(int cell, int without) {
            int who = inside[cell];
            int near = besides[cell];
            for (int c = 0; c < cells && near != 0; c++) {
                if ((near & 1) != 0) {
                    who |= inside[c];
                }
                near >>= 1;
            }
            who &= ~crew.wet & ~without;
            int sum = 0;
            for (int w = 0; w < crew.count && who != 0; w++) {
                if ((who & 1) != 0) {
                    sum += crew.weight[w];
                }
                who >>= 1;
            }
            return sum;
        }

        private int spare(int walker, int cell) {
            if ((shores >> cell & 1) != 0) {
                return MOST_BORNE;
            }
            int then = Math.max(0, sheet.borne[cell] - worse * (sheet.recent[cell] + 1));
            return then - load(cell, 1 << walker) - crew.weight[walker];
        }

        private int carrying(int walker) {
            int set = shores;
            int ask = whole();
            for (int c = 0; c < cells; c++) {
                if ((ask >> c & 1) != 0 && spare(walker, c) >= 0) {
                    set |= 1 << c;
                }
            }
            return set;
        }

        private int notCarried(int cell) {
            int set = 0;
            if (isShore(cell)) {
                return set;
            }
            boolean gone = (sheet.broken >> cell & 1) != 0;
            for (int w = 0; w < crew.count; w++) {
                if ((crew.wet >> w & 1) == 0 && (gone || spare(w, cell) < 0)) {
                    set |= 1 << w;
                }
            }
            return set;
        }

        private boolean leads(int from, int[] row, int n) {
            int here = from;
            for (int k = 0; k < n && k < row.length; k++) {
                if (!isCell(here) || !isCell(row[k]) || (ways[here] >> row[k] & 1) == 0) {
                    return false;
                }
                here = row[k];
            }
            return true;
        }

        private int around(int set) {
            int next = 0;
            for (int c = 0; c < cells; c++) {
                if ((set >> c & 1) != 0) {
                    next |= ways[c];
                }
            }
            return next;
        }

        private int flood(int from, int allowed) {
            int seen = 1 << from;
            for (int k = 0; k < CELLS; k++) {
                int more = seen | around(seen) & allowed;
                if (more == seen) {
                    break;
                }
                seen = more;
            }
            return seen;
        }

        private int sharedShore(int set) {
            int cell = crew.at[firstOf(set) & 7];
            boolean together = isShore(cell) && (set & ~inside[cell]) == 0;
            return together && (set & (crew.wet | crew.routed)) == 0 ? cell : NONE;
        }

        private int walkOn(int many) {
            int all = 0;
            for (int k = 0; k < many; k++) {
                int cracked = walkOnce();
                all |= cracked;
                // Where nobody walks, nothing is due and nothing broke, only the STEP goes on.
                if (cracked == 0 && crew.routed == 0 && sheet.waiting == 0) {
                    time += many - 1 - k;
                    break;
                }
            }
            return all;
        }

        private int walkOnce() {
            time++;
            int slot = hour > 0 && hour <= HOURS ? time % hour : 0;
            sheet.heal(slot, better);
            for (int w = 0; w < crew.count && crew.routed != 0; w++) {
                if ((crew.routed >> w & 1) != 0) {
                    moveOne(w, slot);
                }
            }
            weighAll();
            int cracked = overloaded();
            if (cracked != 0) {
                crack(cracked);
                // Who became WET is no LOAD any more.
                weighAll();
            }
            noteLoads();
            return cracked;
        }

        private void moveOne(int walker, int slot) {
            int from = crew.at[walker];
            int cell = crew.ahead(walker, 0);
            if (!isCell(cell) || !isCell(from)) {
                return;
            }
            inside[from] &= ~(1 << walker);
            inside[cell] |= 1 << walker;
            crew.advance(walker, cell);
            if ((sheet.broken >> cell & 1) != 0) {
                crew.soak(1 << walker);
            } else if ((shores >> cell & 1) == 0) {
                sheet.enter(cell, slot);
            }
        }

        private void weighAll() {
            for (int c = 0; c < cells; c++) {
                loads[c] = load(c, 0);
            }
        }

        private int overloaded() {
            int set = 0;
            int ask = whole();
            for (int c = 0; c < cells; c++) {
                if ((ask >> c & 1) != 0 && loads[c] > strength(c)) {
                    set |= 1 << c;
                }
            }
            return set;
        }

        private void crack(int set) {
            for (int c = 0; c < cells && set != 0; c++) {
                if ((set >> c & 1) != 0) {
                    sheet.shatter(c);
                    crew.soak(inside[c]);
                }
            }
        }

        private void noteLoads() {
            int ask = whole();
            for (int c = 0; c < cells; c++) {
                if ((ask >> c & 1) != 0) {
                    sheet.most[c] = Math.max(sheet.most[c], loads[c]);
                }
            }
        }

        private int freeze(int n) {
            int mended = Integer.bitCount(sheet.broken);
            sheet.broken = 0;
            for (int c = 0; c < cells; c++) {
                if (isIce(c)) {
                    sheet.borne[c] = Math.min(MOST_BORNE, sheet.borne[c] + n);
                }
            }
            return mended;
        }

        private void soften(int n) {
            for (int c = 0; c < cells; c++) {
                sheet.borne[c] = Math.max(0, sheet.borne[c] - n);
            }
        }

        private int countSpent() {
            int many = 0;
            for (int c = 0; c < cells; c++) {
                if (isIce(c) && strength(c) == 0) {
                    many++;
                }
            }
            return many;
        }

        private void bringAshore(int walker) {
            int from = crew.at[walker];
            int shore = firstOf(shores);
            if (!isCell(from) || !isCell(shore)) {
                return;
            }
            inside[from] &= ~(1 << walker);
            inside[shore] |= 1 << walker;
            crew.at[walker] = shore;
            crew.wet &= ~(1 << walker);
        }

        private int leastOnRoute(int walker) {
            int least = ENDLESS;
            for (int k = 0; k < crew.remaining(walker); k++) {
                int cell = crew.ahead(walker, k);
                if (isIce(cell)) {
                    least = Math.min(least, crew.weight[walker] + spare(walker, cell));
                }
            }
            return least == ENDLESS ? NONE : Math.max(0, least);
        }

        private int frailest() {
            int best = NONE;
            for (int c = 0; c < cells; c++) {
                if (isIce(c) && (best < 0 || strength(c) < strength(best))) {
                    best = c;
                }
            }
            return best;
        }

        private int stepsTillStrong(int cell, int much) {
            if ((sheet.broken >> cell & 1) != 0) {
                return NONE;
            }
            int borne = sheet.borne[cell];
            int recent = sheet.recent[cell];
            // Behind one whole HOUR nothing is due any more.
            for (int k = 0; k <= hour && k <= HOURS; k++) {
                if (k > 0 && hour > 0) {
                    int due = sheet.came[(time + k) % hour * CELLS + cell];
                    recent -= due;
                    borne = Math.min(MOST_BORNE, borne + better * due);
                }
                if (Math.max(0, borne - worse * recent) >= much) {
                    return k;
                }
            }
            return NONE;
        }
    }

    /** The tape, and the TOKENS on it one after the other; the first FAULT stays. */
    private static final class Reader {
        private final byte[] tape = new byte[TAPE];
        private final long[] reserved = new long[RESERVED_WORDS];
        private int fed;
        private int length;
        private int place;
        private int next;
        private int kind;
        private int word;
        private long name;
        private int number;
        private int fault = NONE;
        private int faultPlace = NONE;

        private Reader() {
            int at = 0;
            for (int k = 0; k < RESERVED.length(); k++) {
                char sign = RESERVED.charAt(k);
                if (sign == ' ') {
                    at++;
                } else if (at < RESERVED_WORDS) {
                    reserved[at] = reserved[at] * 32 + (sign - 'a' + 1);
                }
            }
        }

        private boolean hasRoom() {
            return fed + 20 <= TAPE;
        }

        private void take(int four) {
            for (int shift = 24; shift >= 0 && fed < TAPE; shift -= 8) {
                tape[fed] = (byte) (four >> shift);
                fed++;
            }
        }

        private void open(int n) {
            length = n;
            fed = 0;
            next = 0;
            fault = 0;
            faultPlace = NONE;
            scan();
        }

        private int signAt(int at) {
            return at >= 0 && at < length && at < TAPE ? tape[at] : NONE;
        }

        private void scan() {
            while (next < length && (signAt(next) == 10 || signAt(next) == 32)) {
                next++;
            }
            place = next;
            word = NONE;
            int sign = signAt(next);
            if (next >= length) {
                kind = TOKEN_NONE;
            } else if (sign >= 'a' && sign <= 'z') {
                scanWord();
            } else if (sign >= '0' && sign <= '9') {
                scanNumber();
            } else if (sign == ';' || sign == '<' || sign == '>' || sign == '=') {
                kind = TOKEN_SIGN;
                number = sign;
                next++;
            } else {
                kind = TOKEN_BAD;
            }
        }

        private void scanWord() {
            long code = 0;
            while (next < length && signAt(next) >= 'a' && signAt(next) <= 'z') {
                code = code * 32 + (signAt(next) - 'a' + 1);
                next++;
            }
            kind = TOKEN_WORD;
            name = next - place > 8 ? 0 : code;
            for (int k = 0; k < RESERVED_WORDS; k++) {
                if (reserved[k] == name) {
                    word = k;
                }
            }
        }

        private void scanNumber() {
            number = 0;
            while (next < length && signAt(next) >= '0' && signAt(next) <= '9') {
                number = number * 10 + (signAt(next) - '0');
                next++;
            }
            kind = next - place > 4 ? TOKEN_BAD : TOKEN_NUMBER;
        }

        private void fail(int why) {
            if (fault == 0) {
                fault = why;
                faultPlace = place;
            }
        }

        private void misfit() {
            fail(kind == TOKEN_BAD ? 1 : 2);
        }

        private void passWord(int wanted) {
            if (kind == TOKEN_WORD && word == wanted) {
                scan();
            } else {
                misfit();
            }
        }

        private boolean passSign(int wanted) {
            if (kind == TOKEN_SIGN && number == wanted) {
                scan();
            } else {
                misfit();
            }
            return fault == 0;
        }

        private int passNumber(int least, int most) {
            int value = number;
            if (kind != TOKEN_NUMBER) {
                misfit();
            } else if (value < least || value > most) {
                fail(4);
            } else {
                scan();
            }
            return value;
        }

        // 0 where no NAME stands.
        private long nameHere() {
            if (kind == TOKEN_WORD && word == NONE && name != 0) {
                return name;
            }
            misfit();
            return 0;
        }

        private int cellHere(Lake lake) {
            long here = nameHere();
            int cell = here == 0 ? NONE : lake.named(here);
            if (cell < 0) {
                fail(3);
            }
            return cell;
        }

        private int walkerHere(Lake lake) {
            long here = nameHere();
            int walker = here == 0 ? NONE : lake.crew.named(here);
            if (walker < 0) {
                fail(3);
            }
            return walker;
        }
    }

    /** Reads the text of a LAKE. */
    private static final class LakeText {
        private final Reader reader;
        private int settled;

        private LakeText(Reader reader) {
            this.reader = reader;
        }

        private void parse(Lake out) {
            out.clear();
            settled = 0;
            for (int k = 0; k < TAPE && reader.fault == 0 && reader.kind != TOKEN_NONE; k++) {
                readPart(out);
            }
        }

        private void readPart(Lake out) {
            switch (reader.word) {
                case ICE:
                    readCell(out, false);
                    break;
                case SHORE:
                    readCell(out, true);
                    break;
                case WAY:
                    readPair(out, false);
                    break;
                case BESIDE:
                    readPair(out, true);
                    break;
                case WALKER:
                    readWalker(out);
                    break;
                case WORSE:
                    out.worse = readSetting(0, out.worse);
                    break;
                case HOUR:
                    out.hour = readSetting(1, out.hour);
                    break;
                case BETTER:
                    out.better = readSetting(0, out.better);
                    break;
                default:
                    reader.misfit();
            }
        }

        private long readNewName(Lake out) {
            long name = reader.nameHere();
            if (name != 0 && (out.named(name) >= 0 || out.crew.named(name) >= 0)) {
                reader.fail(3);
            }
            reader.scan();
            return name;
        }

        private void readCell(Lake out, boolean isShore) {
            if (out.cells >= CELLS) {
                reader.fail(6);
            }
            reader.scan();
            long name = readNewName(out);
            int much = 0;
            if (!isShore) {
                reader.passWord(BEARS);
                much = reader.passNumber(0, 200);
            }
            if (reader.passSign(';')) {
                out.addCell(name, isShore, much);
            }
        }

        private void readPair(Lake out, boolean isBeside) {
            reader.scan();
            int a = reader.cellHere(out);
            if (isBeside && out.isShore(a)) {
                reader.fail(5);
            }
            reader.scan();
            int b = reader.cellHere(out);
            if (a == b || isBeside && out.isShore(b)) {
                reader.fail(5);
            }
            reader.scan();
            if (reader.passSign(';') && out.isPair(a, b)) {
                int[] row = isBeside ? out.besides : out.ways;
                row[a] |= 1 << b;
                row[b] |= 1 << a;
            }
        }

        private void readWalker(Lake out) {
            if (out.crew.count >= WALKERS) {
                reader.fail(6);
            }
            reader.scan();
            long name = readNewName(out);
            reader.passWord(WEIGHS);
            int weight = reader.passNumber(1, 99);
            reader.passWord(AT);
            int cell = reader.cellHere(out);
            if (!out.isShore(cell)) {
                reader.fail(5);
            }
            reader.scan();
            if (reader.passSign(';')) {
                out.addWalker(name, weight, cell);
            }
        }

        private int readSetting(int least, int old) {
            int bit = 1 << reader.word;
            if ((settled & bit) != 0) {
                reader.fail(5);
            }
            settled |= bit;
            reader.scan();
            int value = reader.passNumber(least, 20);
            return reader.passSign(';') ? value : old;
        }
    }

    /** Reads the text of TALES. */
    private static final class TalesText {
        private final Reader reader;
        private final int[] open = new int[NESTED];
        private int depth;

        private TalesText(Reader reader) {
            this.reader = reader;
        }

        private void parse(Lake lake, Tales out) {
            out.clear();
            out.there = true;
            depth = 0;
            for (int k = 0; k < TAPE && reader.fault == 0 && reader.kind != TOKEN_NONE; k++) {
                if (reader.word == END && depth > 0) {
                    readEnd(out);
                } else {
                    readStep(lake, out);
                }
            }
            if (depth > 0) {
                reader.misfit();
            }
        }

        private void readEnd(Tales out) {
            depth--;
            out.past[open[depth]] = out.count;
            reader.scan();
            reader.passSign(';');
        }

        private static boolean isStep(int word) {
            return word == SEND || word == STEP || word == FROST || word == THAW || word == ANY || word == WHEN
                || word == LOOP || word == STOP;
        }

        private void readStep(Lake lake, Tales out) {
            int word = reader.word;
            int row = out.count;
            if (!isStep(word)) {
                reader.misfit();
            } else if (row >= TALE_ROWS) {
                reader.fail(6);
            } else if ((word == WHEN || word == LOOP) && depth >= NESTED) {
                reader.fail(7);
            }
            if (reader.fault != 0) {
                return;
            }
            reader.scan();
            if (word == WHEN) {
                readTest(lake, out, row);
            } else {
                readRest(lake, out, word, row);
            }
            if (!reader.passSign(';')) {
                return;
            }
            out.op[row] = word;
            out.count = row + 1;
            if (word == WHEN || word == LOOP) {
                open[depth] = row;
                depth++;
            }
        }

        private void readRest(Lake lake, Tales out, int word, int row) {
            switch (word) {
                case SEND:
                    out.a[row] = reader.walkerHere(lake);
                    reader.scan();
                    reader.passWord(TO);
                    out.b[row] = reader.cellHere(lake);
                    reader.scan();
                    break;
                case STEP:
                case FROST:
                case THAW:
                    out.a[row] = reader.passNumber(1, 20);
                    break;
                case LOOP:
                    out.a[row] = reader.passNumber(1, 99);
                    break;
                default:
                    break;
            }
        }

        private void readTest(Lake lake, Tales out, int row) {
            int test = reader.word;
            out.test[row] = test;
            if (test != BEARS && test != AT && test != WET) {
                reader.misfit();
                return;
            }
            reader.scan();
            out.a[row] = test == BEARS ? reader.cellHere(lake) : reader.walkerHere(lake);
            reader.scan();
            if (test == BEARS) {
                out.b[row] = readCompares();
                out.c[row] = reader.passNumber(0, MOST_BORNE);
            } else if (test == AT) {
                reader.passWord(IN);
                out.b[row] = reader.cellHere(lake);
                reader.scan();
            }
        }

        private int readCompares() {
            int sign = reader.number;
            if (reader.kind != TOKEN_SIGN || sign == ';') {
                reader.misfit();
                return NONE;
            }
            reader.scan();
            return sign;
        }
    }

    /** Ways through a LAKE. */
    private static final class Paths {
        private final int[] found = new int[CELLS];
        private final int[] layers = new int[CELLS + 1];
        private final int[] spares = new int[CELLS];
        private final int[] subsets = new int[SUBSETS];
        private int length;
        private int least;

        private boolean has(int k) {
            return k >= 0 && k < length && k < CELLS;
        }

        private boolean find(Lake lake, int from, int to, int allowed) {
            length = 0;
            if (from == to) {
                return true;
            }
            int far = layersFrom(lake, to, from, allowed);
            if (far < 1) {
                return false;
            }
            int here = from;
            for (int d = far - 1; d >= 0; d--) {
                int next = firstOf(lake.ways[here] & layers[d]);
                if (!lake.isCell(next) || length >= CELLS) {
                    return false;
                }
                found[length] = next;
                length++;
                here = next;
            }
            return true;
        }

        // From the end backwards, so that the first CELL by number can be taken on the way there.
        private int layersFrom(Lake lake, int to, int from, int allowed) {
            if ((allowed >> to & 1) == 0) {
                return NONE;
            }
            layers[0] = 1 << to;
            int seen = layers[0];
            for (int d = 1; d <= CELLS; d++) {
                int next = lake.around(layers[d - 1]) & ~seen;
                if ((next >> from & 1) != 0) {
                    return d;
                }
                layers[d] = next & allowed;
                seen |= layers[d];
                if (layers[d] == 0) {
                    break;
                }
            }
            return NONE;
        }

        private boolean findSurest(Lake lake, int walker, int cell) {
            int from = lake.crew.at[walker];
            for (int c = 0; c < lake.cells; c++) {
                spares[c] = lake.spare(walker, c);
            }
            boolean any = false;
            for (int c = 0; c < lake.cells; c++) {
                boolean better = !any || spares[c] > least;
                if (better && (lake.flood(from, sparing(lake, spares[c])) >> cell & 1) != 0) {
                    least = spares[c];
                    any = true;
                }
            }
            return any && find(lake, from, cell, sparing(lake, least));
        }

        private int sparing(Lake lake, int much) {
            int set = 0;
            for (int c = 0; c < lake.cells; c++) {
                if (spares[c] >= much) {
                    set |= 1 << c;
                }
            }
            return set;
        }

        private int fewestWithout(Lake lake, int walker, int cell) {
            int from = lake.crew.at[walker];
            if ((lake.ways[from] >> cell & 1) != 0) {
                return NONE;
            }
            int carrying = lake.carrying(walker);
            int may = carrying & ~lake.shores & ~(1 << from) & ~(1 << cell);
            int best = NONE;
            int sub = 0;
            for (int k = 0; k < SUBSETS; k++) {
                boolean fewer = best < 0 || Integer.bitCount(sub) < Integer.bitCount(best);
                if (fewer && (lake.flood(from, carrying & ~sub) >> cell & 1) == 0) {
                    best = sub;
                }
                sub = (sub - may) & may;
                if (sub == 0) {
                    break;
                }
            }
            return best;
        }

        private int whoMayHaveCracked(Lake lake, int set) {
            int who = 0;
            for (int w = 0; w < lake.crew.count; w++) {
                int holding = holdingFor(lake, lake.crew.weight[w]);
                if ((holding & set) == 0 && crosses(lake, set, holding | set)) {
                    who |= 1 << w;
                }
            }
            return who;
        }

        private static int holdingFor(Lake lake, int weight) {
            int set = 0;
            for (int c = 0; c < lake.cells; c++) {
                if (lake.isIce(c) && lake.strength(c) >= weight) {
                    set |= 1 << c;
                }
            }
            return set;
        }

        private boolean crosses(Lake lake, int set, int allowed) {
            for (int s = 0; s < lake.cells; s++) {
                if (lake.isShore(s) && crossesFrom(lake, s, set, allowed)) {
                    return true;
                }
            }
            return false;
        }

        // subsets[sub]: the CELLS at which a way from the SHORE through just the CELLS of sub can be.
        private boolean crossesFrom(Lake lake, int shore, int set, int allowed) {
            int others = lake.shores & ~(1 << shore);
            int landings = lake.around(others);
            if (set == 0 && (lake.ways[shore] & others) != 0) {
                return true;
            }
            int sub = 0;
            for (int k = 0; k < SUBSETS; k++) {
                sub = (sub - allowed) & allowed;
                if (sub <= 0 || sub >= SUBSETS) {
                    break;
                }
                subsets[sub] = lastOf(lake, shore, sub);
                if ((set & ~sub) == 0 && (subsets[sub] & landings) != 0) {
                    return true;
                }
            }
            return false;
        }

        private int lastOf(Lake lake, int shore, int sub) {
            if ((sub & (sub - 1)) == 0) {
                return sub & lake.ways[shore];
            }
            int last = 0;
            for (int c = 0; c < lake.cells; c++) {
                if ((sub >> c & 1) != 0 && (subsets[sub ^ 1 << c] & lake.ways[c]) != 0) {
                    last |= 1 << c;
                }
            }
            return last;
        }
    }

    /** In what order, and at what distance, a QUEUE is over the soonest. */
    private static final class Queue {
        private final Lake[] levels = new Lake[QUEUED];
        private final int[] members = new int[QUEUED];
        private final int[] order = new int[QUEUED];
        private final int[] gaps = new int[QUEUED];
        private final int[] bestOrder = new int[QUEUED];
        private final int[] bestGaps = new int[QUEUED];
        private final int[] row = new int[QUEUE_CELLS];
        private int length;
        private int best;
        private int many;
        private int cells;

        private Queue() {
            for (int k = 0; k < QUEUED; k++) {
                levels[k] = new Lake();
            }
        }

        private int soonest(Lake lake, int set, int[] path, int n) {
            if (n < 1 || n > QUEUE_CELLS || n > path.length || meetsBroken(lake, path, n)) {
                return NONE;
            }
            System.arraycopy(path, 0, row, 0, n);
            cells = n;
            best = ENDLESS;
            gather(set);
            if (many < 1) {
                return NONE;
            }
            for (int code = 0; code < 1 << 2 * many; code++) {
                if (arrange(code)) {
                    startFirst(lake);
                }
            }
            return best == ENDLESS ? NONE : best;
        }

        // Who comes into BROKEN ICE is WET and never at the end; what is whole must not break anyway.
        private static boolean meetsBroken(Lake lake, int[] path, int n) {
            for (int k = 0; k < n; k++) {
                if ((lake.sheet.broken >> path[k] & 1) != 0) {
                    return true;
                }
            }
            return false;
        }

        private void gather(int set) {
            many = 0;
            for (int w = 0; w < WALKERS && many < QUEUED; w++) {
                if ((set >> w & 1) != 0) {
                    members[many] = w;
                    many++;
                }
            }
        }

        // Two bits of the code for each place: rising codes are rising orders.
        private boolean arrange(int code) {
            int used = 0;
            for (int k = 0; k < many; k++) {
                int digit = code >> 2 * (many - 1 - k) & 3;
                if (digit >= many || (used >> digit & 1) != 0) {
                    return false;
                }
                used |= 1 << digit;
                order[k] = members[digit];
            }
            return true;
        }

        private void startFirst(Lake lake) {
            // With GAPS of 1 alone it could not be sooner than the best one is.
            if (cells + many - 1 >= best) {
                return;
            }
            Lake first = levels[0];
            first.copyFrom(lake);
            first.crew.routed = 0;
            first.crew.aim(order[0], row, cells);
            gaps[0] = 0;
            if (first.walkOnce() == 0) {
                tryGaps(1, cells);
            }
        }

        // steps: till the one ahead is at the end. The LAKE of the level ahead goes on as the GAP grows.
        private void tryGaps(int k, int steps) {
            if (k >= many || k >= QUEUED) {
                finish(levels[many - 1], steps);
                return;
            }
            Lake before = levels[k - 1];
            Lake here = levels[k];
            for (int gap = 1; gap <= GAPS && steps + gap + many - 1 - k < best; gap++) {
                here.copyFrom(before);
                here.crew.aim(order[k], row, cells);
                gaps[k] = gap;
                if (here.walkOnce() == 0) {
                    tryGaps(k + 1, steps + gap);
                }
                if (before.walkOnce() != 0) {
                    return;
                }
            }
        }

        private void finish(Lake last, int steps) {
            for (int k = 1; k < cells; k++) {
                if (last.walkOnce() != 0) {
                    return;
                }
            }
            best = steps;
            length = many;
            System.arraycopy(order, 0, bestOrder, 0, QUEUED);
            System.arraycopy(gaps, 0, bestGaps, 0, QUEUED);
        }
    }

    /** What ICE may BEAR in some DAYS: how many of 16, 256 .. cases lead to each number. */
    private static final class Days {
        private final long[] cases = new long[2 * DAYS + 1];
        private final long[] later = new long[2 * DAYS + 1];
        private int middle;

        private static boolean canBe(int days, int f, int t) {
            return days >= 0 && days <= DAYS && f >= 0 && f <= 16 && t >= 0 && t <= 16 - f;
        }

        private static long whole(int days) {
            return 1L << 4 * days;
        }

        private void spread(int borne, int days, int f, int t) {
            middle = borne;
            Arrays.fill(cases, 0);
            cases[DAYS] = 1;
            for (int d = 0; d < days; d++) {
                Arrays.fill(later, 0);
                for (int k = 0; k <= 2 * DAYS; k++) {
                    int value = valueAt(k);
                    int up = value < MOST_BORNE && k < 2 * DAYS ? k + 1 : k;
                    int down = value > 0 && k > 0 ? k - 1 : k;
                    later[up] += cases[k] * f;
                    later[down] += cases[k] * t;
                    later[k] += cases[k] * (16 - f - t);
                }
                System.arraycopy(later, 0, cases, 0, 2 * DAYS + 1);
            }
        }

        private int valueAt(int k) {
            return middle + k - DAYS;
        }

        private long atLeast(int much) {
            long sum = 0;
            for (int k = 0; k <= 2 * DAYS; k++) {
                if (valueAt(k) >= much) {
                    sum += cases[k];
                }
            }
            return sum;
        }

        private long sum() {
            long sum = 0;
            for (int k = 0; k <= 2 * DAYS; k++) {
                sum += cases[k] * valueAt(k);
            }
            return sum;
        }
    }

    /** Lives TALES through on a LAKE. */
    private static final class Life {
        private final Paths paths;
        private final int[] loopRow = new int[NESTED];
        private final int[] loopLeft = new int[NESTED];
        private int depth;
        private int state;
        private boolean drew;
        private int missed;
        private int walked;
        private int sends;
        private int broke;
        private int left;

        private Life(Paths paths) {
            this.paths = paths;
        }

        private int run(Lake lake, Tales tales, int seed) {
            depth = 0;
            state = seed;
            drew = false;
            missed = 0;
            walked = 0;
            sends = 0;
            broke = 0;
            int done = 0;
            int row = 0;
            while (done < LIVED_STEPS && row >= 0 && row < tales.count) {
                row = backToLoop(tales, act(lake, tales, row));
                done++;
            }
            left = row < tales.count ? 1 : 0;
            return done;
        }

        private int act(Lake lake, Tales tales, int row) {
            switch (tales.op[row]) {
                case SEND:
                    trySend(lake, tales.a[row], tales.b[row]);
                    break;
                case STEP:
                    if (lake.time + tales.a[row] > LAST_STEP) {
                        missed++;
                    } else {
                        broke += Integer.bitCount(lake.walkOn(tales.a[row]));
                        walked += tales.a[row];
                    }
                    break;
                case FROST:
                    lake.freeze(tales.a[row]);
                    break;
                case THAW:
                    lake.soften(tales.a[row]);
                    break;
                case ANY:
                    if (lake.crew.count < 1 || lake.cells < 1) {
                        missed++;
                    } else {
                        trySend(lake, draw(lake.crew.count), draw(lake.cells));
                    }
                    break;
                case WHEN:
                    return isSo(lake, tales, row) ? row + 1 : tales.past[row];
                case LOOP:
                    beginLoop(tales, row);
                    break;
                default:
                    depth = 0;
                    return tales.count;
            }
            return row + 1;
        }

        private void beginLoop(Tales tales, int row) {
            boolean isEmpty = tales.past[row] == row + 1;
            if (!isEmpty && depth < NESTED) {
                loopRow[depth] = row;
                loopLeft[depth] = tales.a[row] - 1;
                depth++;
            }
        }

        // Ends are no rows: who comes behind a loop's last row goes back as often as is left.
        private int backToLoop(Tales tales, int row) {
            for (int k = 0; k < NESTED && depth > 0; k++) {
                int loop = loopRow[depth - 1];
                if (tales.past[loop] != row) {
                    break;
                }
                if (loopLeft[depth - 1] > 0) {
                    loopLeft[depth - 1]--;
                    return loop + 1;
                }
                depth--;
            }
            return row;
        }

        private void trySend(Lake lake, int walker, int cell) {
            boolean can = lake.crew.has(walker) && lake.isCell(cell) && !lake.crew.isBusy(walker)
                && lake.crew.at[walker] != cell
                && paths.find(lake, lake.crew.at[walker], cell, lake.carrying(walker));
            if (can) {
                lake.crew.aim(walker, paths.found, paths.length);
                sends++;
            } else {
                missed++;
            }
        }

        private int draw(int n) {
            drew = true;
            state = (state * 2999 + 11177) % 65536;
            return n > 0 ? state / 8 % n : 0;
        }

        private static boolean isSo(Lake lake, Tales tales, int row) {
            int a = tales.a[row];
            int b = tales.b[row];
            switch (tales.test[row]) {
                case BEARS:
                    int strength = lake.isIce(a) ? lake.strength(a) : MOST_BORNE;
                    return b == '<' ? strength < tales.c[row]
                        : b == '>' ? strength > tales.c[row] : strength == tales.c[row];
                case AT:
                    return lake.crew.has(a) && lake.crew.at[a] == b;
                default:
                    return (lake.crew.wet >> a & 1) != 0;
            }
        }
    }
}
