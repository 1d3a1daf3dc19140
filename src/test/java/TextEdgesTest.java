/** Promises 1 to 12 at the bounds that the document names: TRAYS, the tape, the texts of LAKES and TALES, FAULTS. */
public final class TextEdgesTest {
    private static final String[] RESERVED = {"ice", "bears", "shore", "way", "beside", "walker", "weighs", "at",
        "worse", "hour", "better", "send", "to", "step", "frost", "thaw", "any", "when", "in", "wet", "loop", "end",
        "stop"};
    private static final String LAKE = "shore s;ice a bears 9;ice b bears 9;walker w weighs 1 at s;";

    public static void main(String[] args) {
        newObject();
        callsWithoutStatus();
        rowsAreNew();
        cutToSort();
        pours();
        tapeIsFull();
        lakeLengths();
        bytes();
        numbers();
        names();
        takenNames();
        notToldAhead();
        limits();
        wrongTokensOfLakes();
        firstFault();
        toldAgain();
        takenLake();
        talesLengths();
        talesLimits();
        talesNumbers();
        wrongTokensOfTales();
        talesAreKept();
        faultsOfWhat();
        Check.end();
    }

    // ---- promises 1 to 4

    private static void newObject() {
        GooseIce x = new GooseIce();
        for (int t = 0; t < 4; t++) {
            Check.none("read(" + t + ", 0) of a new object", x, x.read(t, 0), 2);
        }
        int[] told = {0, 0, 2, 4, 1, 0, 0, 0, 0, 0};
        for (int k = 0; k < told.length; k++) {
            Check.well("told(" + k + ") of a new object", x, x.told(k), told[k]);
        }
        Check.well("step(20) of no CELLS", x, x.step(20), 0);
        Check.well("frost(20) of no CELLS", x, x.frost(20), 0);
        Check.well("thaw(20) of no CELLS", x, x.thaw(20), 0);
        Check.well("holds() of no CELLS", x, x.holds(), 0);
        Check.well("suspects(0) of no WALKERS", x, x.suspects(0), 0);
        Check.well("mark() of no CELLS", x, x.mark(), 1);
        Check.due("feed to an empty tape", x.feed(0, 0, 0, 0, 0), 20);
    }

    private static void callsWithoutStatus() {
        for (int status = 0; status <= 9; status++) {
            GooseIce x = withStatus(status);
            x.feed(1, 2, 3, 4, 5);
            x.top();
            x.bottom();
            x.fault(0);
            x.fault(9);
            x.status();
            Check.due("STATUS stays behind calls that have none", x.status(), status);
        }
        GooseIce full = withStatus(5);
        for (int k = 0; k < 46; k++) {
            full.feed(0, 0, 0, 0, 0);
        }
        Check.due("STATUS stays behind a feed that gives NONE", full.status(), 5);
    }

    private static GooseIce withStatus(int status) {
        GooseIce x = Check.on(LAKE);
        x.tray(0, 0, 1);
        x.tray(1, 1, 1);
        x.write(0, 0, 9);
        switch (status) {
            case 0 -> x.told(0);
            case 1 -> x.told(10);
            case 2 -> x.read(2, 0);
            case 3 -> x.read(0, 1);
            case 4 -> {
                for (int k = 0; k < 4; k++) {
                    x.mark();
                }
            }
            case 5 -> x.send(0, 0, 1);
            case 6 -> x.undo();
            case 7 -> x.halt(0);
            case 8 -> x.pour(0, 0, 1, 0, 1);
            default -> Check.lake(x, "?");
        }
        Check.due("STATUS " + status, x.status(), status);
        return x;
    }

    // ---- promises 5 to 8

    private static void rowsAreNew() {
        GooseIce x = new GooseIce();
        Check.yes("tray(3, 3, 60)", x, x.tray(3, 3, 60));
        for (int k = 0; k < 60; k++) {
            Check.yes("write(3, " + k + ", ..)", x, x.write(3, k, k + 1));
        }
        Check.well("read(3, 0)", x, x.read(3, 0), 1);
        Check.well("read(3, 59)", x, x.read(3, 59), 60);
        Check.yes("tray(3, 3, 1)", x, x.tray(3, 3, 1));
        Check.well("read(3, 0) of a new row", x, x.read(3, 0), 0);
        Check.none("read(3, 1) of a shorter row", x, x.read(3, 1), 3);
        Check.yes("tray(3, 3, 60)", x, x.tray(3, 3, 60));
        Check.well("read(3, 59) of a longer row again", x, x.read(3, 59), 0);
        x.write(3, 0, 5);
        Check.no("tray(3, 3, 61)", x, x.tray(3, 3, 61), 1);
        Check.well("read(3, 0): the old row stays", x, x.read(3, 0), 5);
        Check.yes("tray(3, 0, 0)", x, x.tray(3, 0, 0));
        Check.none("read(3, 0) of no numbers", x, x.read(3, 0), 3);
        Check.none("read(2, 0): the others are MISSING still", x, x.read(2, 0), 2);
    }

    private static void cutToSort() {
        long[][] rows = {
            {0, 127, 127}, {0, 128, -128}, {0, 255, -1}, {0, 256, 0}, {0, -128, -128}, {0, -129, 127},
            {1, 32767, 32767}, {1, 32768, -32768}, {1, 65535, -1}, {1, 65536, 0}, {1, -32769, 32767},
            {2, Integer.MAX_VALUE, Integer.MAX_VALUE}, {2, 1L << 31, Integer.MIN_VALUE}, {2, 1L << 32, 0},
            {2, (1L << 32) - 1, -1}, {2, Long.MIN_VALUE, 0}, {2, Long.MAX_VALUE, -1},
            {3, Long.MAX_VALUE, Long.MAX_VALUE}, {3, Long.MIN_VALUE, Long.MIN_VALUE}, {3, 1L << 32, 1L << 32}, {3, -1,
                -1}};
        for (long[] row : rows) {
            GooseIce x = new GooseIce();
            x.tray(0, (int) row[0], 1);
            Check.yes("write of " + row[1] + " by sort " + row[0], x, x.write(0, 0, row[1]));
            Check.well("read of " + row[1] + " by sort " + row[0], x, x.read(0, 0), row[2]);
        }
    }

    private static GooseIce oneToFive() {
        GooseIce x = new GooseIce();
        Check.tray(x, 0, 1, 2, 3, 4, 5);
        Check.tray(x, 1, 6, 7, 8);
        return x;
    }

    private static void rowIs(String call, GooseIce x, int tray, int... want) {
        for (int k = 0; k < want.length; k++) {
            Check.well("read(" + tray + ", " + k + ") behind " + call, x, x.read(tray, k), want[k]);
        }
    }

    private static void pours() {
        GooseIce x = oneToFive();
        Check.yes("pour of a whole row to its own place", x, x.pour(0, 0, 0, 0, 5));
        rowIs("a whole row", x, 0, 1, 2, 3, 4, 5);
        Check.yes("pour forward within a row, as they were", x, x.pour(0, 0, 0, 1, 4));
        rowIs("forward", x, 0, 1, 1, 2, 3, 4);
        GooseIce y = oneToFive();
        Check.yes("pour back within a row, as they were", y, y.pour(0, 1, 0, 0, 4));
        rowIs("back", y, 0, 2, 3, 4, 5, 5);
        GooseIce z = oneToFive();
        Check.yes("pour to the last places", z, z.pour(1, 0, 0, 2, 3));
        rowIs("to the last", z, 0, 1, 2, 6, 7, 8);
        Check.yes("pour from the last places", z, z.pour(0, 2, 1, 0, 3));
        Check.yes("pour that fills a whole shorter row", z, z.pour(0, 0, 1, 0, 3));
        rowIs("a shorter row", z, 1, 1, 2, 6);
        Check.no("pour of one more than there", z, z.pour(0, 0, 1, 0, 4), 3);
        Check.no("pour of one more than here", z, z.pour(1, 0, 0, 0, 4), 3);
        Check.yes("pour of none, at the ends", z, z.pour(0, 5, 1, 3, 0));
        Check.no("pour of none, behind the end here", z, z.pour(0, 6, 1, 3, 0), 3);
        Check.no("pour of none, behind the end there", z, z.pour(0, 5, 1, 4, 0), 3);
        z.tray(2, 2, 0);
        Check.yes("pour of none from an empty row", z, z.pour(2, 0, 0, 0, 0));
        Check.yes("pour of none into an empty row", z, z.pour(0, 0, 2, 0, 0));
        Check.no("pour of one from an empty row", z, z.pour(2, 0, 0, 0, 1), 3);
        Check.no("pour of one into an empty row", z, z.pour(0, 0, 2, 0, 1), 3);
        rowIs("all that", z, 0, 1, 2, 6, 7, 8);
    }

    // ---- promise 9

    private static void tapeIsFull() {
        GooseIce x = new GooseIce();
        String text = padded("shore s;ice a bears 200;", 900, "shore t;");
        Check.feed(x, text);
        Check.due("a feed to a full tape", x.feed(-1, -1, -1, -1, -1), -1);
        Check.due("one more", x.feed(-1, -1, -1, -1, -1), -1);
        Check.well("lake(900): nothing came to it", x, x.lake(900), 3);
        Check.due("the tape is empty then", x.feed(0x73686f72, 0x65207a7a, 0x7a7a7a7a, 0x7a7a3b20, 0), 20);
        Check.well("lake(16)", x, x.lake(16), 1);
    }

    /** A text of so many bytes, with blanks in its middle. */
    private static String padded(String head, int length, String tail) {
        return head + " ".repeat(length - head.length() - tail.length()) + tail;
    }

    // ---- promise 10

    private static void lakeLengths() {
        GooseIce x = new GooseIce();
        Check.feed(x, "shore s;shore t;????");
        Check.well("lake(16) of 20 bytes", x, x.lake(16), 2);
        Check.none("lake(1): the rest is gone, too", x, x.lake(1), 1);
        Check.feed(x, "????????????????????");
        Check.well("lake(0) of 20 bytes", x, x.lake(0), 0);
        Check.due("the tape behind lake(0)", x.feed(0, 0, 0, 0, 0), 20);
        Check.none("lake(20) of bytes 0", x, x.lake(20), 9);
        Check.due("the tape behind a FAULT", x.feed(0, 0, 0, 0, 0), 20);
        Check.lakeFault(padded("shore s;", 900, "shore t"), 2, 900);
        Check.lakeFault(padded("shore s;", 900, "?"), 1, 899);
        Check.lakeFault(padded("shore s", 900, " "), 2, 900);
    }

    private static boolean isIn(char from, int b, char to) {
        return b >= from && b <= to;
    }

    private static void bytes() {
        for (int b = 0; b < 256; b++) {
            boolean blank = b == 10 || b == 32;
            boolean word = isIn('a', b, 'z');
            boolean known = word || isIn('0', b, '9') || b == ';' || b == '<' || b == '>' || b == '=';
            String alone = String.valueOf((char) b);
            String between = "shore" + alone + "s;";
            GooseIce x = new GooseIce();
            if (blank) {
                Check.well("lake of the blank " + b, x, Check.lake(x, alone), 0);
                Check.well("tales of the blank " + b, x, Check.tales(x, alone), 0);
                Check.well("lake with the blank " + b, x, Check.lake(x, between), 1);
            } else {
                Check.lakeFault(alone, known ? 2 : 1, 0);
                Check.talesFault(LAKE, alone, known ? 2 : 1, 0);
                Check.lakeFault(between, known ? 2 : 1, word ? 0 : 5);
            }
        }
        GooseIce x = new GooseIce();
        Check.well("lake without blanks", x, Check.lake(x, "worse1;hour2;better3;shore s;ice a bears4;"), 2);
        Check.well("lake with blanks around all", x, Check.lake(x, "\n worse\n1 ;\n\nhour 2\n; \n"), 0);
    }

    private static void lakeNumber(String head, String number, String tail, int kind) {
        String text = head + number + tail;
        if (kind != 0) {
            Check.lakeFault(text, kind, head.length());
        } else {
            GooseIce x = new GooseIce();
            Check.lake(x, text);
            Check.due("fault(0) of '" + text + "'", x.fault(0), 0);
        }
    }

    private static void numbers() {
        String[] heads = {"ice a bears ", "shore s;walker w weighs ", "worse ", "hour ", "better "};
        String[] tails = {";", " at s;", ";", ";", ";"};
        int[] least = {0, 1, 0, 1, 0};
        int[] most = {200, 99, 20, 20, 20};
        for (int k = 0; k < heads.length; k++) {
            lakeNumber(heads[k], "0", tails[k], least[k] == 0 ? 0 : 4);
            lakeNumber(heads[k], "0000", tails[k], least[k] == 0 ? 0 : 4);
            lakeNumber(heads[k], "00000", tails[k], 1);
            lakeNumber(heads[k], "1", tails[k], 0);
            lakeNumber(heads[k], "0001", tails[k], 0);
            lakeNumber(heads[k], "00001", tails[k], 1);
            lakeNumber(heads[k], String.valueOf(most[k]), tails[k], 0);
            lakeNumber(heads[k], String.valueOf(most[k] + 1), tails[k], 4);
            lakeNumber(heads[k], "9999", tails[k], 4);
            lakeNumber(heads[k], "10000", tails[k], 1);
            lakeNumber(heads[k], "4294967297", tails[k], 1);
        }
        GooseIce x = Check.on("shore s;ice a bears 0;ice b bears 0200;worse 0000;hour 01;better 00;"
            + "walker w weighs 0099 at s;");
        Check.well("ice(1, 0)", x, x.ice(1, 0), 0);
        Check.well("ice(2, 0)", x, x.ice(2, 0), 200);
        Check.well("told(2)", x, x.told(2), 0);
        Check.well("told(3)", x, x.told(3), 1);
        Check.well("told(4)", x, x.told(4), 0);
        Check.well("walker(0, 0)", x, x.walker(0, 0), 99);
    }

    private static void names() {
        GooseIce x = new GooseIce();
        Check.well("NAMES of 1 and 8 letters", x,
            Check.lake(x, "shore z;ice abcdefgh bears 1;way z abcdefgh;walker zzzzzzzz weighs 1 at z;"), 2);
        Check.well("way(0, 1)", x, x.way(0, 1), 1);
        Check.lakeFault("shore abcdefghi;", 2, 6);
        Check.lakeFault("shore s;way s abcdefghi;", 2, 14);
        Check.lakeFault("shore s;walker abcdefghi weighs 1 at s;", 2, 15);
        // The same eight letters, and one more.
        Check.lakeFault("shore abcdefgh;ice a bears 1;way a abcdefghh;", 2, 35);
        for (String word : RESERVED) {
            Check.lakeFault("shore " + word + ";", 2, 6);
            Check.lakeFault("ice " + word + " bears 1;", 2, 4);
            Check.lakeFault("shore s;walker " + word + " weighs 1 at s;", 2, 15);
            Check.lakeFault("shore s;way s " + word + ";", 2, 14);
            Check.lakeFault("shore s;walker w weighs 1 at " + word + ";", 2, 29);
            String shorter = word.substring(0, word.length() - 1);
            Check.well("NAMES like " + word, x, Check.lake(x, "shore " + shorter + "q;shore " + word + "q;"), 2);
        }
    }

    private static void takenNames() {
        Check.lakeFault("shore s;shore s;", 3, 14);
        Check.lakeFault("ice s bears 1;ice s bears 1;", 3, 18);
        Check.lakeFault("ice s bears 1;shore s;", 3, 20);
        Check.lakeFault("shore s;walker s weighs 1 at s;", 3, 15);
        Check.lakeFault("shore s;walker w weighs 1 at s;walker w weighs 1 at s;", 3, 38);
        Check.lakeFault("shore s;walker w weighs 1 at s;ice w bears 1;", 3, 35);
        GooseIce x = Check.on("shore s;walker w weighs 1 at s;");
        Check.well("NAMES of an old LAKE are free", x, Check.lake(x, "shore w;walker s weighs 1 at w;"), 1);
        Check.none("a LAKE with a FAULT", x, Check.lake(x, "shore q;shore w;?"), 9);
        Check.well("NAMES of a LAKE with a FAULT are free", x, Check.lake(x, "shore q;"), 1);
    }

    private static void notToldAhead() {
        Check.lakeFault("way s t;shore s;shore t;", 3, 4);
        Check.lakeFault("shore s;way s t;shore t;", 3, 14);
        Check.lakeFault("ice a bears 1;beside a b;ice b bears 1;", 3, 23);
        Check.lakeFault("ice a bears 1;beside b a;ice b bears 1;", 3, 21);
        Check.lakeFault("walker w weighs 1 at s;shore s;", 3, 21);
        Check.lakeFault("shore s;walker w weighs 1 at s;way w s;", 3, 35);
        Check.lakeFault("shore s;walker w weighs 1 at s;walker v weighs 1 at w;", 3, 52);
        GooseIce x = Check.on("shore s;");
        Check.none("a CELL of the old LAKE", x, Check.lake(x, "walker w weighs 1 at s;"), 9);
        Check.due("fault(0)", x.fault(0), 3);
    }

    private static String cells(int many) {
        StringBuilder b = new StringBuilder();
        for (int k = 0; k < many; k++) {
            char name = (char) ('a' + k);
            b.append(k % 2 == 0 ? "shore " + name + ";" : "ice " + name + " bears 9;");
        }
        return b.toString();
    }

    private static String walkers(int many) {
        StringBuilder b = new StringBuilder("shore s;");
        for (int k = 0; k < many; k++) {
            b.append("walker w").append((char) ('a' + k)).append(" weighs 99 at s;");
        }
        return b.toString();
    }

    private static void limits() {
        GooseIce x = new GooseIce();
        Check.well("lake of ten CELLS", x, Check.lake(x, cells(10) + "way a j;worse 3;walker w weighs 1 at i;"), 10);
        Check.well("told(6)", x, x.told(6), 341);
        Check.well("way(0, 9)", x, x.way(0, 9), 1);
        Check.lakeFault(cells(10) + "ice k bears 9;", 6, cells(10).length());
        Check.lakeFault(cells(10) + "shore k;", 6, cells(10).length());
        // At its WORD, though its NAME is taken, can't be one, or is not there.
        Check.lakeFault(cells(10) + " ice a bears 999;", 6, cells(10).length() + 1);
        Check.lakeFault(cells(10) + "shore", 6, cells(10).length());
        Check.well("lake of eight WALKERS", x, Check.lake(x, walkers(8) + "shore t;way s t;"), 2);
        Check.well("told(1)", x, x.told(1), 8);
        Check.lakeFault(walkers(8) + "walker x weighs 1 at s;", 6, walkers(8).length());
        Check.lakeFault(walkers(8) + "\nwalker wa ?", 6, walkers(8).length() + 1);
    }

    /** Each TOKEN of a PART or STEP by itself: left out from there on, or in its place what can't stand there. */
    private static void wrongTokens(boolean isLake, String head, String... tokens) {
        StringBuilder before = new StringBuilder(head);
        for (int k = 0; k < tokens.length; k++) {
            String text = before.toString();
            boolean isBody = tokens[k].equals("end");
            if (k > 0) {
                fault(isLake, text, 2, text.length());
                fault(isLake, text + "\n", 2, text.length() + 1);
            }
            fault(isLake, text + "? ;", 1, text.length());
            fault(isLake, text + "123456 ;", 1, text.length());
            fault(isLake, text + (tokens[k].equals(";") ? "=" : ";"), 2, text.length());
            fault(isLake, text + "abcdefghi ;", 2, text.length());
            if (!tokens[k].matches("[0-9]+")) {
                fault(isLake, text + "1 ;", 2, text.length());
            }
            if (k > 0 && !isBody) {
                fault(isLake, text + "stop ;", 2, text.length());
            }
            before.append(tokens[k]).append(' ');
        }
    }

    private static void fault(boolean isLake, String text, int kind, int place) {
        if (isLake) {
            Check.lakeFault(text, kind, place);
        } else {
            Check.talesFault(LAKE, text, kind, place);
        }
    }

    private static void wrongTokensOfLakes() {
        wrongTokens(true, LAKE, "ice", "x", "bears", "5", ";");
        wrongTokens(true, LAKE, "shore", "x", ";");
        wrongTokens(true, LAKE, "way", "s", "a", ";");
        wrongTokens(true, LAKE, "beside", "a", "b", ";");
        wrongTokens(true, LAKE, "walker", "x", "weighs", "5", "at", "s", ";");
        wrongTokens(true, LAKE, "worse", "5", ";");
        wrongTokens(true, LAKE, "hour", "5", ";");
        wrongTokens(true, LAKE, "better", "5", ";");
        for (String word : RESERVED) {
            boolean begins = word.matches("ice|shore|way|beside|walker|worse|hour|better");
            if (!begins) {
                Check.lakeFault(word, 2, 0);
                Check.lakeFault(LAKE + word, 2, LAKE.length());
            }
        }
    }

    private static void firstFault() {
        Check.lakeFault("shore s;worse 21;?", 4, 14);
        Check.lakeFault("ice a bears 201 ?", 4, 12);
        Check.lakeFault("ice a bears ?;shore a;", 1, 12);
        Check.lakeFault("shore s;ice a bears 1;beside s s;", 5, 29);
        Check.lakeFault("shore s;ice a bears 1;beside s x;", 5, 29);
        Check.lakeFault("shore s;ice a bears 1;beside x s;", 3, 29);
        Check.lakeFault("shore s;ice a bears 1;beside a s;", 5, 31);
        Check.lakeFault("shore s;ice a bears 1;beside a a;", 5, 31);
        Check.lakeFault("shore s;way s s;", 5, 14);
        Check.lakeFault("shore s;ice a bears 1;way a a;", 5, 28);
        Check.lakeFault("shore s;ice a bears 1;walker w weighs 100 at a;", 4, 38);
        Check.lakeFault("shore s;ice a bears 1;walker w weighs 99 at a;", 5, 44);
        Check.lakeFault("shore s;ice a bears 1;walker a weighs 100 at a;", 3, 29);
    }

    private static void toldAgain() {
        for (String word : new String[] {"worse", "hour", "better"}) {
            String once = word + " 1;";
            Check.lakeFault(once + word + " 1;", 5, once.length());
            Check.lakeFault(once + word + " 99;", 5, once.length());
            Check.lakeFault(once + word + ";", 5, once.length());
            Check.lakeFault(once + "shore s;" + word, 5, once.length() + 8);
        }
        GooseIce x = Check.on("worse 1;hour 1;better 2;");
        Check.well("told already in an old LAKE", x, Check.lake(x, "better 3;hour 4;worse 5;"), 0);
        Check.well("told(2)", x, x.told(2), 5);
        Check.well("told(3)", x, x.told(3), 4);
        Check.well("told(4)", x, x.told(4), 3);
        GooseIce y = Check.on("shore s;ice a bears 1;ice b bears 1;way s a;way a s;way s a;beside a b;beside b a;");
        Check.yes("a WAY told again is one WAY: hew(0, 1, false)", y, y.hew(0, 1, false));
        Check.well("way(0, 1)", y, y.way(0, 1), 0);
        Check.well("way(1, 0)", y, y.way(1, 0), 0);
        Check.well("beside(0, 1)", y, y.beside(0, 1), 0);
        Check.well("beside(1, 2)", y, y.beside(1, 2), 1);
        Check.well("way(1, 2): BESIDE is no WAY", y, y.way(1, 2), 0);
    }

    private static void takenLake() {
        String text = "shore s;ice a bears 9;ice b bears 0;way s a;way s b;beside a b;walker v weighs 1 at s;"
            + "walker w weighs 1 at s;";
        GooseIce x = Check.on(text + "worse 9;hour 9;better 9;");
        Check.tray(x, 0, 2);
        Check.tray(x, 1, 1, 0);
        Check.tales(x, "any;");
        x.send(0, 0, 1);
        x.send(1, 1, 2);
        x.hew(1, 2, true);
        x.frost(9);
        x.weigh(1, 3);
        x.step(1);
        x.melt(2);
        Check.well("told(7)", x, x.told(7), 4);
        Check.well("told(8)", x, x.told(8), 1);
        Check.well("told(9)", x, x.told(9), 2);
        // These try the LAKE out: nothing of what they find may stay either.
        x.holds();
        x.mean(0, 20);
        Check.well("the same text again", x, Check.lake(x, text), 3);
        Check.same("a LAKE that is taken", lakeOf(x), lakeOf(Check.on(text)));
        Check.none("live(0): no TALES", x, x.live(0), 6);
        x.step(20);
        GooseIce y = Check.on(text);
        y.step(20);
        Check.same("a LAKE that is taken, 20 STEPS later", lakeOf(x), lakeOf(y));
        GooseIce z = Check.on("ice a bears 50;ice b bears 50;ice c bears 50;shore s;way s a;way s b;way s c;way a b;"
            + "beside a b;beside b c;hour 20;better 9;walker v weighs 9 at s;walker w weighs 9 at s;"
            + "walker u weighs 9 at s;");
        Check.tray(z, 0, 0, 1, 0, 1, 0);
        z.send(0, 0, 5);
        z.sendTo(1, 2);
        z.step(2);
        z.melt(2);
        z.sendTo(2, 1);
        z.holds();
        String other = "ice a bears 30;ice b bears 40;shore s;shore t;way s a;hour 3;walker v weighs 1 at s;"
            + "walker w weighs 1 at t;";
        Check.well("another text", z, Check.lake(z, other), 4);
        GooseIce fresh = Check.on(other);
        Check.same("another LAKE that is taken", lakeOf(z), lakeOf(fresh));
        for (GooseIce one : new GooseIce[] {z, fresh}) {
            one.sendTo(0, 0);
            one.step(3);
        }
        Check.same("another LAKE that is taken, 3 STEPS later", lakeOf(z), lakeOf(fresh));
    }

    private static String lakeOf(GooseIce x) {
        String all = Scene.look(x);
        return all.substring(all.indexOf(" told"), all.indexOf(" tape"));
    }

    // ---- promise 11

    private static void talesLengths() {
        GooseIce x = Check.on(LAKE);
        Check.well("tales of 300 bytes", x, Check.tales(x, padded("any;", 300, "stop;")), 2);
        Check.talesFault(LAKE, padded("any;", 300, "stop"), 2, 300);
        Check.talesFault(LAKE, padded("any;", 300, "?"), 1, 299);
        Check.feed(x, padded("any;", 301, "stop;"));
        Check.none("tales of 301 bytes", x, x.tales(301), 1);
        Check.due("the tape stays", x.feed(0, 0, 0, 0, 0), 340);
        Check.none("tales of 300 of them", x, x.tales(300), 9);
        Check.due("fault(1)", x.fault(1), 300);
        Check.due("the tape is empty then", x.feed(0, 0, 0, 0, 0), 20);
        Check.well("tales(0)", x, x.tales(0), 0);
        Check.due("the tape behind tales(0)", x.feed(0, 0, 0, 0, 0), 20);
    }

    private static void talesLimits() {
        GooseIce x = Check.on(LAKE);
        String thirty = "any;".repeat(30);
        Check.well("thirty STEPS", x, Check.tales(x, thirty), 30);
        for (String step : new String[] {"any;", "stop;", "step 1;", "loop 1;end;", "when wet w;end;", "send ?"}) {
            Check.talesFault(LAKE, thirty + step, 6, 120);
        }
        Check.talesFault(LAKE, thirty + "end;", 2, 120);
        Check.talesFault(LAKE, thirty + "ice", 2, 120);
        Check.well("thirty STEPS and ends", x, Check.tales(x,
            "loop 1;".repeat(3) + "any;".repeat(27) + "end;".repeat(3)), 30);
        Check.talesFault(LAKE, "loop 1;".repeat(3) + "any;".repeat(27) + "end;".repeat(3) + "any;", 6, 21 + 108 + 12);
        // Of one TOKEN the least kind: a 31st STEP that is within three others.
        Check.talesFault(LAKE, "loop 1;".repeat(3) + "any;".repeat(27) + "loop 1;", 6, 21 + 108);
        Check.well("three within each other, twice", x,
            Check.tales(x, ("loop 1;when wet w;loop 1;" + "end;".repeat(3)).repeat(2)), 6);
        Check.talesFault(LAKE, "loop 1;when wet w;loop 1;loop", 7, 25);
        Check.talesFault(LAKE, "when wet w;when wet w;when wet w;when ?", 7, 33);
        Check.well("two behind each other within two", x,
            Check.tales(x, "loop 1;loop 1;loop 1;end;loop 1;end;end;end;"), 4);
        Check.talesFault(LAKE, "end;", 2, 0);
        Check.talesFault(LAKE, "any;end;", 2, 4);
        Check.talesFault(LAKE, "loop 1;end;end;", 2, 11);
        Check.talesFault(LAKE, "loop 1;loop 1;end;", 2, 18);
        Check.talesFault(LAKE, "when wet w;", 2, 11);
        Check.talesFault(LAKE, "loop 1;end", 2, 10);
    }

    private static void talesNumber(String head, String number, String tail, int kind) {
        String text = head + number + tail;
        if (kind != 0) {
            Check.talesFault(LAKE, text, kind, head.length());
        } else {
            GooseIce x = Check.on(LAKE);
            Check.well("tales of '" + text + "'", x, Check.tales(x, text), 1);
        }
    }

    private static void talesNumbers() {
        String[] heads = {"step ", "frost ", "thaw ", "loop ", "when bears a < ", "when bears s > ", "when bears b = "};
        int[] most = {20, 20, 20, 99, 999, 999, 999};
        for (int k = 0; k < heads.length; k++) {
            String tail = k < 3 ? ";" : ";end;";
            talesNumber(heads[k], "0", tail, k < 4 ? 4 : 0);
            talesNumber(heads[k], "1", tail, 0);
            talesNumber(heads[k], "0001", tail, 0);
            talesNumber(heads[k], "00001", tail, 1);
            talesNumber(heads[k], String.valueOf(most[k]), tail, 0);
            talesNumber(heads[k], String.valueOf(most[k] + 1), tail, 4);
            talesNumber(heads[k], "9999", tail, 4);
            talesNumber(heads[k], "10000", tail, 1);
        }
    }

    private static void wrongTokensOfTales() {
        wrongTokens(false, "any;", "send", "w", "to", "a", ";");
        wrongTokens(false, "any;", "step", "5", ";");
        wrongTokens(false, "any;", "frost", "5", ";");
        wrongTokens(false, "any;", "thaw", "5", ";");
        wrongTokens(false, "any;", "any", ";");
        wrongTokens(false, "any;", "stop", ";");
        wrongTokens(false, "any;", "when", "bears", "a", "<", "5", ";", "end", ";");
        wrongTokens(false, "any;", "when", "at", "w", "in", "a", ";", "end", ";");
        wrongTokens(false, "any;", "when", "wet", "w", ";", "end", ";");
        wrongTokens(false, "any;", "loop", "5", ";", "end", ";");
        for (String word : RESERVED) {
            boolean begins = word.matches("send|step|frost|thaw|any|when|loop|stop");
            if (!begins) {
                Check.talesFault(LAKE, word, 2, 0);
            }
            if (!word.matches("bears|at|wet")) {
                Check.talesFault(LAKE, "when " + word + " w;", 2, 5);
            }
            Check.talesFault(LAKE, "send " + word + " to a;", 2, 5);
            Check.talesFault(LAKE, "send w to " + word + ";", 2, 10);
        }
        // A WALKER where a CELL must stand, a CELL where a WALKER must.
        Check.talesFault(LAKE, "send a to a;", 3, 5);
        Check.talesFault(LAKE, "send w to w;", 3, 10);
        Check.talesFault(LAKE, "send q to a;", 3, 5);
        Check.talesFault(LAKE, "send w to q;", 3, 10);
        Check.talesFault(LAKE, "when bears w < 1;end;", 3, 11);
        Check.talesFault(LAKE, "when bears q ? 1;end;", 3, 11);
        Check.talesFault(LAKE, "when at a in a;end;", 3, 8);
        Check.talesFault(LAKE, "when at w in w;end;", 3, 13);
        Check.talesFault(LAKE, "when wet s;end;", 3, 9);
        GooseIce x = Check.on(LAKE);
        Check.well("a SHORE is a CELL, too", x, Check.tales(x, "send w to s;when bears s = 0;end;when at w in s;"
            + "end;"), 3);
    }

    private static void talesAreKept() {
        GooseIce x = Check.on(LAKE);
        Check.tales(x, "frost 1;frost 2;");
        Check.none("TALES with a FAULT behind a STEP", x, Check.tales(x, "thaw 1;thaw 2;thaw 3;loop 4;?"), 9);
        Check.well("live(0): the old TALES stay", x, x.live(0), 2);
        Check.well("ice(1, 0)", x, x.ice(1, 0), 12);
        Check.none("TALES cut off within a loop", x, Check.tales(x, "loop 2;loop 2;any;"), 9);
        Check.well("the next TALES begin anew", x, Check.tales(x, "loop 2;thaw 1;end;"), 2);
        Check.well("live(0) of them", x, x.live(0), 3);
        Check.well("ice(1, 0)", x, x.ice(1, 0), 10);
        Check.none("a LAKE with a FAULT", x, Check.lake(x, "shore ?"), 9);
        Check.well("live(0): the TALES stay", x, x.live(0), 3);
    }

    // ---- promise 12

    private static void faultsOfWhat() {
        GooseIce x = new GooseIce();
        int[] others = {-1, 2, 3, Integer.MIN_VALUE, Integer.MAX_VALUE};
        for (int what : new int[] {0, 1, -1, 2, Integer.MIN_VALUE, Integer.MAX_VALUE}) {
            Check.due("fault(" + what + ") ahead of any", x.fault(what), -1);
        }
        x.lake(1);
        Check.due("fault(0) behind STATUS 1 alone", x.fault(0), -1);
        x.lake(0);
        Check.due("fault(0) without one", x.fault(0), 0);
        Check.due("fault(1) without one", x.fault(1), -1);
        Check.tales(x, "any;?");
        Check.due("fault(0) of tales()", x.fault(0), 1);
        Check.due("fault(1) of tales()", x.fault(1), 4);
        for (int what : others) {
            Check.due("fault(" + what + ")", x.fault(what), -1);
        }
        x.tales(1);
        x.lake(-1);
        Check.due("fault(0) behind STATUS 1", x.fault(0), 1);
        Check.due("fault(1) behind STATUS 1", x.fault(1), 4);
        Check.lake(x, "?");
        Check.due("fault(1): a place of 0", x.fault(1), 0);
        x.tales(0);
        Check.due("fault(0) behind tales() with STATUS 0", x.fault(0), 0);
        Check.due("fault(1) behind tales() with STATUS 0", x.fault(1), -1);
    }
}
