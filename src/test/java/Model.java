import java.math.BigInteger;
import java.util.ArrayList;
import java.util.HashMap;
import java.util.List;
import java.util.Map;
import java.util.TreeSet;

/** The document once more, as plainly as it can be said and as slow as it likes: ModelTest sets GooseIce against it. */
final class Model {
    static final int NONE = -1;
    private static final String[] RESERVED = {"ice", "bears", "shore", "way", "beside", "walker", "weighs", "at",
        "worse", "hour", "better", "send", "to", "step", "frost", "thaw", "any", "when", "in", "wet", "loop", "end",
        "stop"};

    static final class Cell {
        String name;
        boolean shore;
        int bears;
        int most;
        boolean broken;
        List<Integer> came = new ArrayList<>();

        Cell copy() {
            Cell c = new Cell();
            c.name = name;
            c.shore = shore;
            c.bears = bears;
            c.most = most;
            c.broken = broken;
            c.came = new ArrayList<>(came);
            return c;
        }
    }

    static final class Man {
        String name;
        int weight;
        int at;
        int made;
        boolean wet;
        List<Integer> route = new ArrayList<>();

        Man copy() {
            Man m = new Man();
            m.name = name;
            m.weight = weight;
            m.at = at;
            m.made = made;
            m.wet = wet;
            m.route = new ArrayList<>(route);
            return m;
        }
    }

    static final class Node {
        String op;
        String test;
        int a;
        int b;
        int c;
        char sign;
        List<Node> body = new ArrayList<>();
    }

    static final class State {
        List<Cell> cells = new ArrayList<>();
        List<Man> men = new ArrayList<>();
        boolean[][] way = new boolean[10][10];
        boolean[][] beside = new boolean[10][10];
        int worse = 2;
        int hour = 4;
        int better = 1;
        int step = 0;
        List<Node> tales = null;

        State copy() {
            State s = new State();
            for (Cell c : cells) {
                s.cells.add(c.copy());
            }
            for (Man m : men) {
                s.men.add(m.copy());
            }
            for (int i = 0; i < 10; i++) {
                s.way[i] = way[i].clone();
                s.beside[i] = beside[i].clone();
            }
            s.worse = worse;
            s.hour = hour;
            s.better = better;
            s.step = step;
            s.tales = tales;
            return s;
        }

        boolean isCell(int c) {
            return c >= 0 && c < cells.size();
        }

        boolean isIce(int c) {
            return isCell(c) && !cells.get(c).shore;
        }

        boolean isMan(int w) {
            return w >= 0 && w < men.size();
        }

        int recent(int c) {
            int n = 0;
            for (int s : cells.get(c).came) {
                if (s <= step && s >= step - hour + 1) {
                    n++;
                }
            }
            return n;
        }

        int strength(int c) {
            return Math.max(0, cells.get(c).bears - worse * recent(c));
        }

        int load(int c, int without) {
            int sum = 0;
            for (int w = 0; w < men.size(); w++) {
                Man m = men.get(w);
                if (w != without && !m.wet && (m.at == c || beside[c][m.at])) {
                    sum += m.weight;
                }
            }
            return sum;
        }

        int margin(int w, int c) {
            if (cells.get(c).shore) {
                return 999;
            }
            int strength = Math.max(0, cells.get(c).bears - worse * (recent(c) + 1));
            return strength - load(c, w) - men.get(w).weight;
        }

        boolean bears(int w, int c) {
            return cells.get(c).shore || !cells.get(c).broken && margin(w, c) >= 0;
        }

        void doBreak(int c) {
            Cell cell = cells.get(c);
            cell.broken = true;
            cell.bears = 0;
            cell.came.clear();
            for (Man m : men) {
                if (m.at == c) {
                    m.wet = true;
                    m.route.clear();
                }
            }
        }

        TreeSet<Integer> step() {
            step++;
            for (Man m : men) {
                if (!m.route.isEmpty()) {
                    m.at = m.route.remove(0);
                    m.made++;
                    Cell c = cells.get(m.at);
                    if (!c.shore && c.broken) {
                        m.wet = true;
                        m.route.clear();
                    } else if (!c.shore) {
                        c.came.add(step);
                    }
                }
            }
            for (Cell c : cells) {
                for (int s : c.came) {
                    if (s == step - hour) {
                        c.bears = Math.min(999, c.bears + better);
                    }
                }
            }
            TreeSet<Integer> breaking = new TreeSet<>();
            for (int c = 0; c < cells.size(); c++) {
                if (isIce(c) && !cells.get(c).broken && load(c, NONE) > strength(c)) {
                    breaking.add(c);
                }
            }
            for (int c : breaking) {
                doBreak(c);
            }
            for (int c = 0; c < cells.size(); c++) {
                if (isIce(c) && !cells.get(c).broken) {
                    cells.get(c).most = Math.max(cells.get(c).most, load(c, NONE));
                }
            }
            return breaking;
        }

        int frost(int n) {
            int mended = 0;
            for (Cell c : cells) {
                if (!c.shore && c.broken) {
                    c.broken = false;
                    c.bears = n;
                    mended++;
                } else if (!c.shore) {
                    c.bears = Math.min(999, c.bears + n);
                }
            }
            return mended;
        }

        void thaw(int n) {
            for (Cell c : cells) {
                if (!c.shore && !c.broken) {
                    c.bears = Math.max(0, c.bears - n);
                }
            }
        }

        /** The first of the shortest simple ways by the allowed CELLS, or null. */
        List<Integer> shortest(int from, int to, boolean[] allowed) {
            List<List<Integer>> best = new ArrayList<>();
            best.add(null);
            boolean[] seen = new boolean[10];
            seen[from] = true;
            if (from == to) {
                return new ArrayList<>();
            }
            for (int most = 1; most <= 10 && best.get(0) == null; most++) {
                deepen(from, to, allowed, seen, new ArrayList<>(), most, best);
            }
            return best.get(0);
        }

        private void deepen(int here, int to, boolean[] allowed, boolean[] seen, List<Integer> soFar, int most,
                List<List<Integer>> best) {
            if (best.get(0) != null) {
                return;
            }
            if (here == to) {
                best.set(0, new ArrayList<>(soFar));
                return;
            }
            if (soFar.size() == most) {
                return;
            }
            for (int c = 0; c < cells.size(); c++) {
                if (way[here][c] && allowed[c] && !seen[c]) {
                    seen[c] = true;
                    soFar.add(c);
                    deepen(c, to, allowed, seen, soFar, most, best);
                    soFar.remove(soFar.size() - 1);
                    seen[c] = false;
                }
            }
        }

        List<Integer> wayOf(int w, int to) {
            boolean[] allowed = new boolean[10];
            for (int c = 0; c < cells.size(); c++) {
                allowed[c] = bears(w, c);
            }
            return shortest(men.get(w).at, to, allowed);
        }
    }

    private State s = new State();
    private final List<State> marks = new ArrayList<>();
    private final Long[][] trays = new Long[4][];
    private final int[] sorts = new int[4];
    private final List<Integer> tape = new ArrayList<>();
    private int status = 0;
    private BigInteger top = BigInteger.ZERO;
    private BigInteger bottom = BigInteger.ONE;
    private int fault = NONE;
    private int faultPlace = NONE;
    private int[] lived = null;
    private List<Integer> queueMen = new ArrayList<>();
    private List<Integer> queueGaps = new ArrayList<>();

    int status() {
        return status;
    }

    long top() {
        return top.longValueExact();
    }

    long bottom() {
        return bottom.longValueExact();
    }

    int cellCount() {
        return s.cells.size();
    }

    int manCount() {
        return s.men.size();
    }

    private int ok(int v) {
        status = 0;
        return v;
    }

    private int no(int why) {
        status = why;
        return NONE;
    }

    private boolean yes() {
        status = 0;
        return true;
    }

    private boolean nay(int why) {
        status = why;
        return false;
    }

    boolean tray(int tray, int sort, int many) {
        if (tray < 0 || tray > 3 || sort < 0 || sort > 3 || many < 0 || many > 60) {
            return nay(1);
        }
        trays[tray] = new Long[many];
        java.util.Arrays.fill(trays[tray], 0L);
        sorts[tray] = sort;
        return yes();
    }

    boolean write(int tray, int place, long v) {
        if (tray < 0 || tray > 3) {
            return nay(1);
        }
        if (trays[tray] == null) {
            return nay(2);
        }
        if (place < 0 || place >= trays[tray].length) {
            return nay(3);
        }
        int bits = 8 << sorts[tray];
        trays[tray][place] = v << 64 - bits >> 64 - bits;
        return yes();
    }

    long read(int tray, int place) {
        if (tray < 0 || tray > 3) {
            return no(1);
        }
        if (trays[tray] == null) {
            return no(2);
        }
        if (place < 0 || place >= trays[tray].length) {
            return no(3);
        }
        status = 0;
        return trays[tray][place];
    }

    boolean pour(int from, int place, int to, int at, int many) {
        if (from < 0 || from > 3 || to < 0 || to > 3 || place < 0 || at < 0 || many < 0) {
            return nay(1);
        }
        if (trays[from] == null || trays[to] == null) {
            return nay(2);
        }
        if (sorts[from] != sorts[to]) {
            return nay(8);
        }
        if ((long) place + many > trays[from].length || (long) at + many > trays[to].length) {
            return nay(3);
        }
        Long[] were = trays[from].clone();
        for (int k = 0; k < many; k++) {
            trays[to][at + k] = were[place + k];
        }
        return yes();
    }

    int feed(int a, int b, int c, int d, int e) {
        if (tape.size() > 880) {
            return NONE;
        }
        for (int v : new int[] {a, b, c, d, e}) {
            for (int k = 3; k >= 0; k--) {
                tape.add(v >> 8 * k & 255);
            }
        }
        return tape.size();
    }

    // ---- texts, read by exceptions

    private static final class Fault extends RuntimeException {
        private static final long serialVersionUID = 1;
        final int kind;
        final int place;

        Fault(int kind, int place) {
            super(null, null, false, false);
            this.kind = kind;
            this.place = place;
        }
    }

    private String text;
    private int at;

    private void blanks() {
        while (at < text.length() && (text.charAt(at) == ' ' || text.charAt(at) == '\n')) {
            at++;
        }
    }

    /** The next TOKEN without taking it: "" at the end. */
    private String peek() {
        blanks();
        if (at == text.length()) {
            return "";
        }
        int to = at;
        while (to < text.length() && Character.toString(text.charAt(to)).matches("[a-z]")) {
            to++;
        }
        if (to > at) {
            return text.substring(at, to);
        }
        while (to < text.length() && Character.toString(text.charAt(to)).matches("[0-9]")) {
            to++;
        }
        if (to > at) {
            if (to - at > 4) {
                throw new Fault(1, at);
            }
            return text.substring(at, to);
        }
        if (";<>=".indexOf(text.charAt(at)) < 0) {
            throw new Fault(1, at);
        }
        return text.substring(at, at + 1);
    }

    private void take(String wanted) {
        if (!peek().equals(wanted)) {
            throw new Fault(2, at);
        }
        at += wanted.length();
    }

    private int number(int least, int most) {
        String t = peek();
        if (!t.matches("[0-9]+")) {
            throw new Fault(2, at);
        }
        int v = Integer.parseInt(t);
        if (v < least || v > most) {
            throw new Fault(4, at);
        }
        at += t.length();
        return v;
    }

    private String name() {
        String t = peek();
        if (!t.matches("[a-z]{1,8}") || java.util.Arrays.asList(RESERVED).contains(t)) {
            throw new Fault(2, at);
        }
        return t;
    }

    private static int find(List<String> names, String n) {
        return names.indexOf(n);
    }

    private static List<String> cellNames(State s) {
        List<String> out = new ArrayList<>();
        for (Cell c : s.cells) {
            out.add(c.name);
        }
        return out;
    }

    private static List<String> manNames(State s) {
        List<String> out = new ArrayList<>();
        for (Man m : s.men) {
            out.add(m.name);
        }
        return out;
    }

    private String newName(State out) {
        String n = name();
        if (find(cellNames(out), n) >= 0 || find(manNames(out), n) >= 0) {
            throw new Fault(3, at);
        }
        at += n.length();
        return n;
    }

    /** Kind 0: any CELL; 1: no SHORE; 2: a SHORE. */
    private int oldCell(State in, int kind, int notThis) {
        String n = name();
        int c = find(cellNames(in), n);
        if (c < 0) {
            throw new Fault(3, at);
        }
        if (c == notThis || kind == 1 && in.cells.get(c).shore || kind == 2 && !in.cells.get(c).shore) {
            throw new Fault(5, at);
        }
        at += n.length();
        return c;
    }

    private int oldMan(State in) {
        String n = name();
        int w = find(manNames(in), n);
        if (w < 0) {
            throw new Fault(3, at);
        }
        at += n.length();
        return w;
    }

    private State readLake() {
        State out = new State();
        List<String> settled = new ArrayList<>();
        while (!peek().isEmpty()) {
            String t = peek();
            if (t.equals("ice") || t.equals("shore")) {
                if (out.cells.size() == 10) {
                    throw new Fault(6, at);
                }
                take(t);
                Cell c = new Cell();
                c.name = newName(out);
                c.shore = t.equals("shore");
                if (!c.shore) {
                    take("bears");
                    c.bears = number(0, 200);
                }
                take(";");
                out.cells.add(c);
            } else if (t.equals("way") || t.equals("beside")) {
                take(t);
                int kind = t.equals("beside") ? 1 : 0;
                int a = oldCell(out, kind, NONE);
                int b = oldCell(out, kind, a);
                take(";");
                boolean[][] m = kind == 1 ? out.beside : out.way;
                m[a][b] = true;
                m[b][a] = true;
            } else if (t.equals("walker")) {
                if (out.men.size() == 8) {
                    throw new Fault(6, at);
                }
                take(t);
                Man m = new Man();
                m.name = newName(out);
                take("weighs");
                m.weight = number(1, 99);
                take("at");
                m.at = oldCell(out, 2, NONE);
                take(";");
                out.men.add(m);
            } else if (t.equals("worse") || t.equals("hour") || t.equals("better")) {
                if (settled.contains(t)) {
                    throw new Fault(5, at);
                }
                settled.add(t);
                take(t);
                int v = number(t.equals("hour") ? 1 : 0, 20);
                take(";");
                if (t.equals("worse")) {
                    out.worse = v;
                } else if (t.equals("hour")) {
                    out.hour = v;
                } else {
                    out.better = v;
                }
            } else {
                throw new Fault(2, at);
            }
        }
        return out;
    }

    private int steps;

    private List<Node> readTales(int depth) {
        List<Node> out = new ArrayList<>();
        while (true) {
            String t = peek();
            if (t.isEmpty() && depth == 0) {
                return out;
            }
            if (t.equals("end") && depth > 0) {
                take("end");
                take(";");
                return out;
            }
            if (!java.util.Arrays.asList("send", "step", "frost", "thaw", "any", "when", "loop", "stop").contains(t)) {
                throw new Fault(2, at);
            }
            if (steps == 30) {
                throw new Fault(6, at);
            }
            boolean opens = t.equals("when") || t.equals("loop");
            if (opens && depth == 3) {
                throw new Fault(7, at);
            }
            steps++;
            Node n = new Node();
            n.op = t;
            take(t);
            if (t.equals("send")) {
                n.a = oldMan(s);
                take("to");
                n.b = oldCell(s, 0, NONE);
            } else if (t.equals("step") || t.equals("frost") || t.equals("thaw")) {
                n.a = number(1, 20);
            } else if (t.equals("loop")) {
                n.a = number(1, 99);
            } else if (t.equals("when")) {
                readTest(n);
            }
            take(";");
            if (opens) {
                n.body = readTales(depth + 1);
            }
            out.add(n);
        }
    }

    private void readTest(Node n) {
        n.test = peek();
        if (n.test.equals("bears")) {
            take("bears");
            n.a = oldCell(s, 0, NONE);
            String sign = peek();
            if (!sign.matches("[<>=]")) {
                throw new Fault(2, at);
            }
            take(sign);
            n.sign = sign.charAt(0);
            n.c = number(0, 999);
        } else if (n.test.equals("at")) {
            take("at");
            n.a = oldMan(s);
            take("in");
            n.b = oldCell(s, 0, NONE);
        } else {
            take("wet");
            n.a = oldMan(s);
        }
    }

    private void open(int n) {
        StringBuilder b = new StringBuilder();
        for (int k = 0; k < n; k++) {
            b.append((char) (int) tape.get(k));
        }
        text = b.toString();
        at = 0;
        tape.clear();
        fault = 0;
        faultPlace = NONE;
    }

    int lake(int n) {
        if (n < 0 || n > tape.size()) {
            return no(1);
        }
        open(n);
        try {
            s = readLake();
            return ok(s.cells.size());
        } catch (Fault f) {
            fault = f.kind;
            faultPlace = f.place;
            return no(9);
        }
    }

    int tales(int n) {
        if (n < 0 || n > tape.size() || n > 300) {
            return no(1);
        }
        open(n);
        steps = 0;
        try {
            s.tales = readTales(0);
            return ok(steps);
        } catch (Fault f) {
            fault = f.kind;
            faultPlace = f.place;
            return no(9);
        }
    }

    int fault(int what) {
        return what == 0 ? fault : what == 1 ? faultPlace : NONE;
    }

    int told(int what) {
        int set = 0;
        for (int c = 0; c < s.cells.size(); c++) {
            if (what == 6 && s.cells.get(c).shore || what == 7 && s.cells.get(c).broken) {
                set += 1 << c;
            }
        }
        for (int w = 0; w < s.men.size(); w++) {
            if (what == 8 && s.men.get(w).wet || what == 9 && !s.men.get(w).route.isEmpty()) {
                set += 1 << w;
            }
        }
        int[] plain = {s.cells.size(), s.men.size(), s.worse, s.hour, s.better, s.step, set, set, set, set};
        return what < 0 || what > 9 ? no(1) : ok(plain[what]);
    }

    int ice(int cell, int what) {
        if (!s.isIce(cell) || what < 0 || what > 4) {
            return no(1);
        }
        Cell c = s.cells.get(cell);
        return ok(new int[] {c.bears, s.strength(cell), s.recent(cell), s.load(cell, NONE), c.most}[what]);
    }

    int walker(int walker, int what) {
        if (!s.isMan(walker) || what < 0 || what > 3) {
            return no(1);
        }
        Man m = s.men.get(walker);
        return ok(new int[] {m.weight, m.at, m.route.size(), m.made}[what]);
    }

    int routeAt(int walker, int k) {
        if (!s.isMan(walker)) {
            return no(1);
        }
        Man m = s.men.get(walker);
        return k < 0 || k >= m.route.size() ? no(6) : ok(m.route.get(k));
    }

    int way(int a, int b) {
        return !s.isCell(a) || !s.isCell(b) || a == b ? no(1) : ok(s.way[a][b] ? 1 : 0);
    }

    int beside(int a, int b) {
        return !s.isCell(a) || !s.isCell(b) || a == b ? no(1) : ok(s.beside[a][b] ? 1 : 0);
    }

    int within(int cell) {
        if (!s.isCell(cell)) {
            return no(1);
        }
        int set = 0;
        for (int w = 0; w < s.men.size(); w++) {
            if (s.men.get(w).at == cell) {
                set += 1 << w;
            }
        }
        return ok(set);
    }

    /** The way in a TRAY, or null with STATUS 2, 3 or 5. */
    private List<Integer> trayWay(int tray, int n) {
        if (trays[tray] == null) {
            no(2);
            return null;
        }
        if (trays[tray].length < n) {
            no(3);
            return null;
        }
        List<Integer> out = new ArrayList<>();
        for (int k = 0; k < n; k++) {
            long v = trays[tray][k];
            if (v < 0 || v >= s.cells.size()) {
                no(5);
                return null;
            }
            out.add((int) v);
        }
        return out;
    }

    private boolean isWay(int from, List<Integer> cells) {
        int here = from;
        for (int c : cells) {
            if (!s.way[here][c]) {
                return false;
            }
            here = c;
        }
        return true;
    }

    int send(int walker, int tray, int n) {
        if (!s.isMan(walker) || tray < 0 || tray > 3 || n < 1 || n > 20) {
            return no(1);
        }
        List<Integer> route = trayWay(tray, n);
        if (route == null) {
            return NONE;
        }
        Man m = s.men.get(walker);
        if (m.wet || !m.route.isEmpty() || !isWay(m.at, route)) {
            return no(7);
        }
        m.route = route;
        return ok(n);
    }

    int sendTo(int walker, int cell) {
        if (!s.isMan(walker) || !s.isCell(cell)) {
            return no(1);
        }
        Man m = s.men.get(walker);
        if (m.wet || !m.route.isEmpty() || m.at == cell) {
            return no(7);
        }
        List<Integer> route = s.wayOf(walker, cell);
        if (route == null) {
            return no(6);
        }
        m.route = route;
        return ok(route.size());
    }

    int halt(int walker) {
        if (!s.isMan(walker)) {
            return no(1);
        }
        int had = s.men.get(walker).route.size();
        s.men.get(walker).route.clear();
        return had == 0 ? no(7) : ok(had);
    }

    int step(int many) {
        if (many < 1 || many > 20) {
            return no(1);
        }
        if (s.step + many > 9999) {
            return no(4);
        }
        int set = 0;
        for (int k = 0; k < many; k++) {
            for (int c : s.step()) {
                set |= 1 << c;
            }
        }
        return ok(set);
    }

    int frost(int n) {
        return n < 1 || n > 20 ? no(1) : ok(s.frost(n));
    }

    int thaw(int n) {
        if (n < 1 || n > 20) {
            return no(1);
        }
        s.thaw(n);
        int zero = 0;
        for (int c = 0; c < s.cells.size(); c++) {
            if (s.isIce(c) && s.strength(c) == 0) {
                zero++;
            }
        }
        return ok(zero);
    }

    int rescue(int walker) {
        if (!s.isMan(walker)) {
            return no(1);
        }
        int shore = 0;
        while (s.isIce(shore)) {
            shore++;
        }
        if (!s.men.get(walker).wet || shore == s.cells.size()) {
            return no(7);
        }
        s.men.get(walker).wet = false;
        s.men.get(walker).at = shore;
        return ok(Integer.bitCount(told(8)));
    }

    int melt(int cell) {
        if (!s.isIce(cell)) {
            return no(1);
        }
        if (s.cells.get(cell).broken) {
            return no(7);
        }
        s.doBreak(cell);
        return ok(Integer.bitCount(told(7)));
    }

    boolean weigh(int walker, int weight) {
        if (!s.isMan(walker) || weight < 1 || weight > 99) {
            return nay(1);
        }
        s.men.get(walker).weight = weight;
        return yes();
    }

    boolean hew(int a, int b, boolean open) {
        if (!s.isCell(a) || !s.isCell(b) || a == b) {
            return nay(1);
        }
        if (s.way[a][b] == open) {
            return nay(7);
        }
        s.way[a][b] = open;
        s.way[b][a] = open;
        return yes();
    }

    int bears(int walker, int cell) {
        return !s.isMan(walker) || !s.isCell(cell) ? no(1) : ok(s.bears(walker, cell) ? 1 : 0);
    }

    int margin(int walker, int cell) {
        return !s.isMan(walker) || !s.isCell(cell) ? no(1) : ok(s.margin(walker, cell));
    }

    int far(int walker, int cell) {
        if (!s.isMan(walker) || !s.isCell(cell)) {
            return no(1);
        }
        List<Integer> route = s.wayOf(walker, cell);
        return route == null ? no(6) : ok(route.size());
    }

    int wayAt(int walker, int cell, int k) {
        if (!s.isMan(walker) || !s.isCell(cell)) {
            return no(1);
        }
        List<Integer> route = s.wayOf(walker, cell);
        return route == null || k < 0 || k >= route.size() ? no(6) : ok(route.get(k));
    }

    private boolean wrongPair(int walker, int cell) {
        return !s.isMan(walker) || !s.isCell(cell) || s.men.get(walker).at == cell;
    }

    /** SUREST by going down from the greatest MARGIN that can be. */
    private List<Integer> surestWay(int walker, int cell, int[] least) {
        TreeSet<Integer> margins = new TreeSet<>();
        for (int c = 0; c < s.cells.size(); c++) {
            margins.add(s.margin(walker, c));
        }
        for (int t : margins.descendingSet()) {
            boolean[] allowed = new boolean[10];
            for (int c = 0; c < s.cells.size(); c++) {
                allowed[c] = s.margin(walker, c) >= t;
            }
            List<Integer> route = s.shortest(s.men.get(walker).at, cell, allowed);
            if (route != null) {
                least[0] = 999;
                for (int c : route) {
                    least[0] = Math.min(least[0], s.margin(walker, c));
                }
                return route;
            }
        }
        return null;
    }

    int surest(int walker, int cell) {
        if (wrongPair(walker, cell)) {
            return no(1);
        }
        int[] least = new int[1];
        return surestWay(walker, cell, least) == null ? no(6) : ok(least[0]);
    }

    int surestFar(int walker, int cell) {
        if (wrongPair(walker, cell)) {
            return no(1);
        }
        List<Integer> route = surestWay(walker, cell, new int[1]);
        return route == null ? no(6) : ok(route.size());
    }

    int surestAt(int walker, int cell, int k) {
        if (wrongPair(walker, cell)) {
            return no(1);
        }
        List<Integer> route = surestWay(walker, cell, new int[1]);
        return route == null || k < 0 || k >= route.size() ? no(6) : ok(route.get(k));
    }

    int reach(int walker) {
        if (!s.isMan(walker)) {
            return no(1);
        }
        int set = 0;
        for (int c = 0; c < s.cells.size(); c++) {
            if (s.wayOf(walker, c) != null) {
                set += 1 << c;
            }
        }
        return ok(set);
    }

    private int cutOf(int walker, int cell) {
        int from = s.men.get(walker).at;
        if (s.way[from][cell]) {
            return NONE;
        }
        for (int size = 0; size <= 10; size++) {
            for (int set = 0; set < 1 << s.cells.size(); set++) {
                if (Integer.bitCount(set) != size || (set >> from & 1) == 1 || (set >> cell & 1) == 1) {
                    continue;
                }
                boolean[] allowed = new boolean[10];
                boolean ice = true;
                for (int c = 0; c < s.cells.size(); c++) {
                    allowed[c] = s.bears(walker, c) && (set >> c & 1) == 0;
                    ice &= (set >> c & 1) == 0 || s.isIce(c);
                }
                if (ice && s.shortest(from, cell, allowed) == null) {
                    return set;
                }
            }
        }
        return NONE;
    }

    int cut(int walker, int cell) {
        if (wrongPair(walker, cell)) {
            return no(1);
        }
        int set = cutOf(walker, cell);
        return set == NONE ? no(6) : ok(Integer.bitCount(set));
    }

    int cutSet(int walker, int cell) {
        if (wrongPair(walker, cell)) {
            return no(1);
        }
        int set = cutOf(walker, cell);
        return set == NONE ? no(6) : ok(set);
    }

    int heaviest(int walker) {
        if (!s.isMan(walker)) {
            return no(1);
        }
        List<Integer> sums = new ArrayList<>();
        for (int c : s.men.get(walker).route) {
            if (s.isIce(c)) {
                sums.add(Math.max(0, s.men.get(walker).weight + s.margin(walker, c)));
            }
        }
        return sums.isEmpty() ? no(6) : ok(java.util.Collections.min(sums));
    }

    int weakest() {
        int best = NONE;
        for (int c = s.cells.size() - 1; c >= 0; c--) {
            if (s.isIce(c) && (best == NONE || s.strength(c) <= s.strength(best))) {
                best = c;
            }
        }
        return best == NONE ? no(6) : ok(best);
    }

    int tooHeavy(int cell) {
        if (!s.isCell(cell)) {
            return no(1);
        }
        int set = 0;
        for (int w = 0; w < s.men.size(); w++) {
            if (!s.men.get(w).wet && !s.bears(w, cell)) {
                set += 1 << w;
            }
        }
        return ok(set);
    }

    int ready(int cell, int much) {
        if (!s.isIce(cell) || much < 0 || much > 999) {
            return no(1);
        }
        if (s.cells.get(cell).broken) {
            return no(6);
        }
        // With nobody on the lake nothing can break in the meantime.
        State t = s.copy();
        t.men.clear();
        for (int k = 0; k <= 20; k++) {
            if (t.strength(cell) >= much) {
                return ok(k);
            }
            t.step();
        }
        return no(6);
    }

    private boolean wrongSet(int set) {
        return set <= 0 || set >= 1 << s.men.size();
    }

    int queue(int set, int tray, int n) {
        if (wrongSet(set) || Integer.bitCount(set) > 4 || tray < 0 || tray > 3 || n < 1 || n > 12) {
            return no(1);
        }
        List<Integer> path = trayWay(tray, n);
        if (path == null) {
            return NONE;
        }
        List<Integer> who = new ArrayList<>();
        for (int w = 0; w < 8; w++) {
            if ((set >> w & 1) == 1) {
                who.add(w);
            }
        }
        int from = s.men.get(who.get(0)).at;
        for (int w : who) {
            Man m = s.men.get(w);
            if (m.at != from || m.wet || !m.route.isEmpty()) {
                return no(7);
            }
        }
        if (s.isIce(from) || !isWay(from, path)) {
            return no(7);
        }
        for (int total = n; total <= n + 18; total++) {
            if (order(who, new ArrayList<>(), path, total - n)) {
                return ok(total);
            }
        }
        return no(6);
    }

    private boolean order(List<Integer> rest, List<Integer> soFar, List<Integer> path, int gapSum) {
        if (rest.isEmpty()) {
            return spaced(soFar, new ArrayList<>(List.of(0)), path, gapSum);
        }
        for (int w : rest) {
            List<Integer> fewer = new ArrayList<>(rest);
            fewer.remove(Integer.valueOf(w));
            List<Integer> more = new ArrayList<>(soFar);
            more.add(w);
            if (order(fewer, more, path, gapSum)) {
                return true;
            }
        }
        return false;
    }

    private boolean spaced(List<Integer> men, List<Integer> gaps, List<Integer> path, int left) {
        if (gaps.size() == men.size()) {
            if (left != 0 || !isOver(men, gaps, path)) {
                return false;
            }
            queueMen = men;
            queueGaps = gaps;
            return true;
        }
        for (int g = 1; g <= 6 && g <= left; g++) {
            List<Integer> more = new ArrayList<>(gaps);
            more.add(g);
            if (spaced(men, more, path, left - g)) {
                return true;
            }
        }
        return false;
    }

    private boolean isOver(List<Integer> men, List<Integer> gaps, List<Integer> path) {
        State t = s.copy();
        for (Man m : t.men) {
            m.route.clear();
        }
        int last = 1;
        for (int g : gaps) {
            last += g;
        }
        last += path.size() - 1;
        for (int time = 1; time <= last; time++) {
            int start = 1;
            for (int k = 0; k < men.size(); k++) {
                start += gaps.get(k);
                if (start == time) {
                    t.men.get(men.get(k)).route = new ArrayList<>(path);
                }
            }
            if (!t.step().isEmpty()) {
                return false;
            }
        }
        for (int w : men) {
            if (t.men.get(w).wet || !t.men.get(w).route.isEmpty()) {
                return false;
            }
        }
        return true;
    }

    int queueAt(int k, int what) {
        if (what != 0 && what != 1) {
            return no(1);
        }
        if (k < 0 || k >= queueMen.size()) {
            return no(6);
        }
        return ok(what == 0 ? queueMen.get(k) : queueGaps.get(k));
    }

    int holds() {
        State t = s.copy();
        for (int k = 1; k <= 20; k++) {
            boolean any = false;
            for (Man m : t.men) {
                any |= !m.route.isEmpty();
            }
            if (any && !t.step().isEmpty()) {
                return ok(k);
            }
        }
        return ok(0);
    }

    private int weight(int set) {
        int sum = 0;
        for (int w = 0; w < s.men.size(); w++) {
            sum += (set >> w & 1) == 1 ? s.men.get(w).weight : 0;
        }
        return sum;
    }

    private int halfOf(int set) {
        int best = NONE;
        for (int part = 1; part <= set; part++) {
            boolean can = (part & ~set) == 0 && (part & Integer.lowestOneBit(set)) != 0;
            if (can && (best == NONE || apart(set, part) < apart(set, best))) {
                best = part;
            }
        }
        return best;
    }

    private int apart(int set, int part) {
        return Math.abs(weight(part) - weight(set & ~part));
    }

    int halves(int set) {
        return wrongSet(set) ? no(1) : ok(apart(set, halfOf(set)));
    }

    int half(int set) {
        return wrongSet(set) ? no(1) : ok(halfOf(set));
    }

    int groups(int set, int most) {
        if (wrongSet(set) || most < 1 || most > 999) {
            return no(1);
        }
        int fewest = fewest(set, most);
        return fewest > 8 ? no(6) : ok(fewest);
    }

    private int fewest(int set, int most) {
        if (set == 0) {
            return 0;
        }
        int best = 99;
        int lead = Integer.lowestOneBit(set);
        for (int part = set; part > 0; part = part - 1 & set) {
            if ((part & lead) != 0 && weight(part) <= most) {
                best = Math.min(best, 1 + fewest(set & ~part, most));
            }
        }
        return best;
    }

    private static final int[][] TRIALS = new int[61][7];

    static {
        for (int n = 1; n <= 60; n++) {
            TRIALS[n][0] = 1000;
            for (int b = 1; b <= 6; b++) {
                TRIALS[n][b] = 1000;
                for (int k = 1; k <= n; k++) {
                    TRIALS[n][b] = Math.min(TRIALS[n][b], tried(n, b, k));
                }
            }
        }
    }

    private static int tried(int n, int b, int k) {
        return 1 + Math.max(TRIALS[k - 1][b - 1], TRIALS[n - k][b]);
    }

    int trials(int n, int b) {
        return n < 0 || n > 60 || b < 1 || b > 6 ? no(1) : ok(TRIALS[n][b]);
    }

    int tryFirst(int n, int b) {
        if (n < 0 || n > 60 || b < 1 || b > 6) {
            return no(1);
        }
        for (int k = 1; k <= n; k++) {
            if (tried(n, b, k) == TRIALS[n][b]) {
                return ok(k);
            }
        }
        return no(6);
    }

    int suspects(int set) {
        if (set < 0 || set >= 1 << s.cells.size()) {
            return no(1);
        }
        for (int c = 0; c < s.cells.size(); c++) {
            if ((set >> c & 1) == 1 && s.cells.get(c).shore) {
                return no(1);
            }
        }
        int who = 0;
        for (int w = 0; w < s.men.size(); w++) {
            int weight = s.men.get(w).weight;
            boolean all = true;
            for (int c = 0; c < s.cells.size(); c++) {
                all &= (set >> c & 1) == 0 || s.strength(c) < weight;
            }
            boolean any = false;
            for (int c = 0; c < s.cells.size() && all; c++) {
                any |= s.cells.get(c).shore && crosses(c, 1 << c, set, weight);
            }
            if (any) {
                who += 1 << w;
            }
        }
        return ok(who);
    }

    private boolean crosses(int here, int seen, int set, int weight) {
        for (int c = 0; c < s.cells.size(); c++) {
            if (!s.way[here][c] || (seen >> c & 1) == 1) {
                continue;
            }
            if (s.cells.get(c).shore) {
                if ((set & ~seen) == 0) {
                    return true;
                }
            } else if ((set >> c & 1) == 1 || s.strength(c) >= weight) {
                if (crosses(c, seen | 1 << c, set, weight)) {
                    return true;
                }
            }
        }
        return false;
    }

    // ---- days

    private Map<Integer, BigInteger> cases(int bears, int days, int f, int t) {
        Map<Integer, BigInteger> now = new HashMap<>();
        now.put(bears, BigInteger.ONE);
        for (int d = 0; d < days; d++) {
            Map<Integer, BigInteger> next = new HashMap<>();
            for (Map.Entry<Integer, BigInteger> e : now.entrySet()) {
                next.merge(Math.min(999, e.getKey() + 1), e.getValue().multiply(BigInteger.valueOf(f)), BigInteger::add);
                next.merge(Math.max(0, e.getKey() - 1), e.getValue().multiply(BigInteger.valueOf(t)), BigInteger::add);
                next.merge(e.getKey(), e.getValue().multiply(BigInteger.valueOf(16 - f - t)), BigInteger::add);
            }
            now = next;
        }
        return now;
    }

    private void tell(BigInteger over, BigInteger under) {
        BigInteger g = over.gcd(under);
        top = over.divide(g);
        bottom = under.divide(g);
    }

    private boolean wrongDays(int cell, int days, int f, int t) {
        return !s.isIce(cell) || days < 0 || days > 10 || f < 0 || t < 0 || (long) f + t > 16;
    }

    private BigInteger good(int cell, int much, int days, int f, int t) {
        BigInteger sum = BigInteger.ZERO;
        for (Map.Entry<Integer, BigInteger> e : cases(s.cells.get(cell).bears, days, f, t).entrySet()) {
            if (e.getKey() >= much) {
                sum = sum.add(e.getValue());
            }
        }
        return sum;
    }

    boolean odds(int cell, int much, int days, int f, int t) {
        if (wrongDays(cell, days, f, t) || much < 0 || much > 999) {
            return nay(1);
        }
        tell(good(cell, much, days, f, t), BigInteger.valueOf(16).pow(days));
        return yes();
    }

    int bestDay(int cell, int much, int days, int f, int t) {
        if (wrongDays(cell, days, f, t) || much < 0 || much > 999) {
            return no(1);
        }
        int best = 0;
        for (int d = 1; d <= days; d++) {
            BigInteger here = good(cell, much, d, f, t).multiply(BigInteger.valueOf(16).pow(best));
            BigInteger there = good(cell, much, best, f, t).multiply(BigInteger.valueOf(16).pow(d));
            if (here.compareTo(there) > 0) {
                best = d;
            }
        }
        return ok(best);
    }

    boolean meanIn(int cell, int days, int f, int t) {
        if (wrongDays(cell, days, f, t)) {
            return nay(1);
        }
        BigInteger sum = BigInteger.ZERO;
        for (Map.Entry<Integer, BigInteger> e : cases(s.cells.get(cell).bears, days, f, t).entrySet()) {
            sum = sum.add(e.getValue().multiply(BigInteger.valueOf(e.getKey())));
        }
        tell(sum, BigInteger.valueOf(16).pow(days));
        return yes();
    }

    // ---- TALES, lived as a tree

    private static final class Over extends RuntimeException {
        private static final long serialVersionUID = 1;

        Over() {
            super(null, null, false, false);
        }
    }

    private long drawn;
    private int done;
    private int[] tally;

    private int draw(int n) {
        drawn = (drawn * 2999 + 11177) % 65536;
        return (int) (drawn / 8 % n);
    }

    private void liveOn(List<Node> nodes) {
        for (Node n : nodes) {
            if (done == 300) {
                tally[4] = 1;
                throw new Over();
            }
            done++;
            liveOne(n);
        }
    }

    private void liveOne(Node n) {
        switch (n.op) {
            case "send" -> liveSend(n.a, n.b);
            case "step" -> {
                if (s.step + n.a > 9999) {
                    tally[0]++;
                } else {
                    for (int k = 0; k < n.a; k++) {
                        tally[3] += s.step().size();
                        tally[1]++;
                    }
                }
            }
            case "frost" -> s.frost(n.a);
            case "thaw" -> s.thaw(n.a);
            case "any" -> {
                if (s.cells.isEmpty() || s.men.isEmpty()) {
                    tally[0]++;
                } else {
                    int w = draw(s.men.size());
                    liveSend(w, draw(s.cells.size()));
                }
            }
            case "when" -> {
                if (isSo(n)) {
                    liveOn(n.body);
                }
            }
            case "loop" -> {
                for (int k = 0; k < n.a; k++) {
                    liveOn(n.body);
                }
            }
            default -> throw new Over();
        }
    }

    private boolean isSo(Node n) {
        if (n.test.equals("bears")) {
            int v = s.cells.get(n.a).shore ? 999 : s.strength(n.a);
            return n.sign == '<' ? v < n.c : n.sign == '>' ? v > n.c : v == n.c;
        }
        return n.test.equals("at") ? s.men.get(n.a).at == n.b : s.men.get(n.a).wet;
    }

    private void liveSend(int w, int c) {
        int was = status;
        if (sendTo(w, c) == NONE) {
            tally[0]++;
        } else {
            tally[2]++;
        }
        status = was;
    }

    private int runTales(int seed) {
        drawn = seed;
        done = 0;
        tally = new int[5];
        try {
            liveOn(s.tales);
        } catch (Over over) {
            return done;
        }
        return done;
    }

    int live(int seed) {
        if (seed < 0 || seed > 9999) {
            return no(1);
        }
        if (s.tales == null) {
            return no(6);
        }
        int n = runTales(seed);
        lived = tally;
        return ok(n);
    }

    int lived(int what) {
        return what < 0 || what > 4 ? no(1) : lived == null ? no(6) : ok(lived[what]);
    }

    boolean mean(int seed, int many) {
        if (seed < 0 || many < 1 || many > 20 || (long) seed + many - 1 > 9999) {
            return nay(1);
        }
        if (s.tales == null) {
            return nay(6);
        }
        State kept = s;
        int sum = 0;
        for (int k = 0; k < many; k++) {
            s = kept.copy();
            runTales(seed + k);
            for (Man m : s.men) {
                sum += m.wet ? 1 : 0;
            }
        }
        s = kept;
        tell(BigInteger.valueOf(sum), BigInteger.valueOf(many));
        return yes();
    }

    int mark() {
        if (marks.size() == 3) {
            return no(4);
        }
        marks.add(s.copy());
        return ok(marks.size());
    }

    int undo() {
        if (marks.isEmpty()) {
            return no(6);
        }
        s = marks.remove(marks.size() - 1);
        return ok(marks.size());
    }
}
