/** Promises 22 to 25, 29: routes and the fewest swaps, one case for each edge that the document names. */
public final class RouteEdgeTests {
    private static final Cases CASES = new Cases();
    private static final String ROW_OF_3 = "3;0-1;1-2";
    private static final String ROW_OF_5 = "5;0-1;1-2;2-3;3-4";
    private static final String STAR_OF_4 = "4;0-1;0-2;0-3";
    private static final String CROSS = "5;0-2;2-4;4-1;1-3";
    private static final String[] WHATS = {"swaps", "gates", "depth"};
    private static final int LEAST = Integer.MIN_VALUE;
    private static final int GREATEST = Integer.MAX_VALUE;

    private RouteEdgeTests() {
    }

    private static void is(String name, long got, long want) {
        CASES.is(name, got, want);
    }

    private static void routed(String name, int n, String board, String circuit, int look, String want) {
        CASES.is("22: " + name + ": " + circuit + " on " + board + ", look " + look,
            Cases.routed(Cases.with(n, board, circuit), look), want);
    }

    // ---- promise 22: arguments

    private static void looks() {
        for (int look = 0; look <= 15; look += look == 5 ? 5 : 1) {
            GatesOnBoard x = Cases.with(3, ROW_OF_3, "c0,1");
            is("22: look " + look, x.route(look, 0), 0);
            is("23: look " + look, x.routed(look, 0, 0), 3);
            is("27: look " + look, x.lasts(2, look), 3);
        }
        for (int look : new int[] {LEAST, -1, 6, 7, 8, 9, 16, 17, 20, GREATEST}) {
            GatesOnBoard x = Cases.with(3, ROW_OF_3, "c0,1");
            is("22: no look " + look, x.route(look, 0), -1);
            is("22: no look " + look + ", what 10", x.route(look, 10), -1);
            is("23: no look " + look, x.routed(look, 0, 0), -1);
            Cases.board(x, "2;0-1");
            is("22: no look " + look + ", more lines than places: NONE comes first", x.route(look, 0), -1);
            is("23: no look " + look + ", more lines than places: NONE comes first", x.routed(look, 0, 0), -1);
        }
    }

    private static void whats() {
        for (int n = 1; n <= 4; n++) {
            GatesOnBoard x = Cases.with(n, "5;0-1;1-2", "h0");
            is("22: the last line of " + n, x.route(0, 10 + n - 1), n - 1);
            for (int what : new int[] {LEAST, -1, 3, 4, 9, 10 + n, 14, 15, 20, GREATEST}) {
                is("22: no what " + what + " of " + n, x.route(0, what), -1);
                is("22: no what " + what + " of " + n + ", loose", x.route(15, what), -1);
            }
            for (int what : new int[] {LEAST, -1, 5, 6, GREATEST}) {
                is("23: no what " + what, x.routed(0, 0, what), -1);
            }
        }
        GatesOnBoard x = Cases.with(4, "4", "c0,1");
        is("22: given up, no what: NONE comes first", x.route(0, 3), -1);
        is("23: given up, no what: NONE comes first", x.routed(0, 0, 5), -1);
        is("23: given up, i -1: NONE comes first", x.routed(0, -1, 0), -1);
        for (int what : new int[] {0, 1, 2, 10, 11, 12, 13}) {
            is("22: given up, what " + what, x.route(0, what), -6);
            is("22: given up, loose, what " + what, x.route(10, what), -6);
        }
        for (int m = 2; m <= 3; m++) {
            x = Cases.with(m + 1, m + ";0-1", "");
            for (int what : new int[] {0, 1, 2, 10, 11}) {
                is("22: more lines than places, " + m + ", what " + what, x.route(0, what), -3);
                is("22: more lines than places, loose, " + m + ", what " + what, x.route(12, what), -3);
            }
            is("22: more lines than places, no what: NONE comes first", x.route(0, 3), -1);
            is("23: more lines than places", x.routed(0, 0, 0), -3);
            is("23: more lines than places, not so many", x.routed(0, 70, 0), -3);
            is("23: more lines than places, i -1: NONE comes first", x.routed(0, -1, 0), -1);
            is("23: more lines than places, no what: NONE comes first", x.routed(0, 0, 5), -1);
        }
    }

    // ---- promise 22: the route

    private static void route(String name, int n, String board, String circuit, int look, String want) {
        CASES.begin("22: " + name + ": " + circuit + " on " + board + ", look " + look);
        GatesOnBoard x = Cases.with(n, board, circuit);
        StringBuilder got = new StringBuilder();
        for (int what = 0; what < 10 + n; what += what == 2 ? 8 : 1) {
            got.append(what > 0 ? " " : "").append(x.route(look, what));
        }
        CASES.due("route", got.toString(), want);
    }

    private static void ends() {
        route("no gates", 1, "2", "", 0, "0 0 0 0");
        route("no gates of two lines", 2, "2", "h0;x0;r1,1", 5, "0 3 2 0 1");
        route("one that fits", 2, "2;0-1", "w1,0", 0, "0 1 1 0 1");
        route("loose, but the depth is strict", 2, "2", "r1,0;r2,0;r3,0", 10, "0 3 3 0 1");
        route("the depth goes by places", 3, ROW_OF_3, "h0;c0,2;h1", 0, "1 4 3 1 0 2");
        route("30 gates", 1, "2", Cases.many("h0", 30), 0, "0 30 30 0");
        route("no edges", 2, "5", "w1,0", 0, "-6 -6 -6 -6 -6");
        route("no edge at a line of the front", 4, "4;0-1", "c2,3", 0, "-6 -6 -6 -6 -6 -6 -6");
        route("no edge at a line of the front behind one that fits", 4, "4;0-1", "c0,1;c2,3", 10, "-6 -6 -6 -6 -6 -6 -6");
        route("two pieces", 3, "3;0-1", "c0,2", 0, "-6 -6 -6 -6 -6 -6");
        route("one swap", 3, ROW_OF_3, "c0,2", 0, "1 2 2 1 0 2");
        route("three swaps", 2, "5;0-2;2-3;3-4;4-1", "c0,1", 0, "3 4 3 3 4");
        GatesOnBoard x = Cases.with(4, ROW_OF_5, "");
        Cases.gates(x, PromiseTests.FORTY);
        is("22: a 40th swap", x.route(0, 0), 40);
        is("22: 40 swaps and 30 gates", x.route(0, 1), 70);
        is("23: the last of 70", x.routed(0, 69, 4), 0);
        is("23: there are no 71", x.routed(0, 70, 4), -4);
        Cases.gates(x, PromiseTests.BEYOND_FORTY);
        for (int what : new int[] {0, 1, 2, 10, 13}) {
            is("22: with a 41st swap it is given up, what " + what, x.route(0, what), -6);
        }
        is("23: with a 41st swap it is given up", x.routed(0, 0, 0), -6);
        is("22: the next look is not", x.route(1, 0), 18);
        Cases.gates(x, PromiseTests.FORTY_LOOSE);
        is("22: a 40th swap, loose", x.route(10, 0), 40);
        Cases.gates(x, PromiseTests.BEYOND_FORTY_LOOSE);
        is("22: with a 41st swap it is given up, loose", x.route(10, 0), -6);
        is("22: the next loose look is not", x.route(11, 0), 20);
    }

    private static void order() {
        routed("the lowest first", 2, "4;0-1;1-2;2-3", "r3,1;h0", 0, "r3,1 h0");
        routed("what waits comes behind", 3, ROW_OF_3, "h2;c0,2;h0;x1", 0, "h2 x1 0-1 c1,2 h1");
        routed("what fits is done before all swaps", 3, ROW_OF_3, "c0,1;c0,2", 0, "c0,1 0-1 c1,2");
        routed("strict: c2,1 is ahead of r7,2", 4, STAR_OF_4, "c2,1;r7,2", 0, "0-1 c2,0 r7,2");
        routed("loose: it is not", 4, STAR_OF_4, "c2,1;r7,2", 10, "r7,2 0-1 c2,0");
        routed("strict, of three", 3, ROW_OF_3, "c0,2;c0,1;c1,2", 0, "0-1 c1,2 c1,0 0-1 c1,2");
        routed("loose, of three", 3, ROW_OF_3, "c0,2;c0,1;c1,2", 10, "c0,1 c1,2 0-1 c1,2");
    }

    private static void fronts() {
        routed("all of the front", 4, "5;0-1;1-2;2-3;3-4;4-0", "w2,0;w1,3", 0, "1-2 w1,0 w2,3");
        routed("next are not in front", 3, CROSS, "c0,1;c1,2", 1, "1-4 2-4 c0,2 c2,4");
        routed("next are of two lines", 4, CROSS, "w3,0;r2,3;d2,3", 1, "1-3 1-4 2-4 w2,0 r2,2 d4,2");
        routed("next are not done", 4, "4;0-1;1-2;2-3;3-0", "c3,0;c3,1", 1, "c3,0 0-1 c3,0");
        routed("next are the lowest", 4, CROSS, "c2,1;d1,0;d3,0", 1, "1-4 c2,4 0-2 d4,2 2-4 1-3 d1,4");
        routed("an edge with a line of the front at one place", 2, CROSS, "d0,1", 0, "0-2 1-4 d2,4");
        routed("no edge without such a line", 4, "5;0-4;3-4;1-3;0-2", "c2,1;c2,0;c2,3;c1,0", 11,
            "c2,0 3-4 0-4 c2,0 1-3 0-2 3-4 c0,4 c4,3");
        routed("the lowest of like edges", 2, "5;1-4;4-2;2-0", "d0,1", 0, "1-4 0-2 d2,4");
        routed("the lowest of like edges, told otherwise", 2, "5;0-2;4-2;1-4", "d0,1", 0, "0-2 1-4 d2,4");
        routed("by what is far behind the swap", 4, "4;0-1;1-2;2-3", "d3,1", 0, "1-2 d3,2");
    }

    private static void costs() {
        routed("front twice", 4, "5;0-1;1-2;2-3;3-4;4-0", "w3,0;c0,2", 1, "3-4 w4,0 0-1 c1,2");
        routed("front twice, not thrice", 4, CROSS, "w0,3;c3,0;c1,2", 1, "0-2 2-4 1-4 w1,3 c3,1 0-2 c4,2");
        routed("front by how many next are", 4, CROSS, "d3,0;w1,0;c0,2", 2,
            "0-2 1-3 2-4 d1,4 1-3 w1,4 0-2 c4,2");
        routed("next by how many are in front", 4, CROSS, "w0,3;c3,0;c1,2", 1, "0-2 2-4 1-4 w1,3 c3,1 0-2 c4,2");
    }

    private static void wear() {
        routed("worn places cost more", 2, CROSS, "d0,1", 0, "0-2 1-4 d2,4");
        routed("the lower place is worn", 2, CROSS, "d0,1", 0, "0-2 1-4 d2,4");
        routed("the higher place is worn", 4, CROSS, "w0,3", 0, "0-2 1-3 2-4 w4,1");
        routed("by the greater one", 4, CROSS, "d2,3", 0, "2-4 1-3 d4,1");
        routed("not by both", 4, CROSS, "c3,0;c2,1;c3,0;d0,2;h1;w1,0;h3", 12,
            "0-2 1-4 2-4 c0,2 h2 1-3 c1,4 c1,4 h1 2-4 d2,0 w4,2");
        routed("1 each", 4, ROW_OF_5, "w3,0;c2,3;c2,1", 2, "0-1 1-2 w3,2 2-3 c1,2 c1,0");
        routed("10 and the wear, not 9", 4, CROSS, "c3,2;c3,0;c1,0", 2, "2-4 1-4 c3,1 0-2 1-3 2-4 c1,4 c2,4");
        routed("10 and the wear, not 11", 4, CROSS, "d3,0;w1,0;c0,2", 2, "0-2 1-3 2-4 d1,4 1-3 w1,4 0-2 c4,2");
        routed("a gate of two lines ends it", 4, "4;0-1;1-2;2-3", "d0,3;d0,2", 10, "0-1 d1,2 1-2 d2,3");
        routed("it ends at 0, not at 1", 4, CROSS, "w2,0;w0,3;c0,1;c0,2;c0,2", 2,
            "w2,0 0-2 1-3 2-4 w4,1 1-3 c4,1 0-2 c4,2 c4,2");
        routed("it ends at 0, not below", 4, "4;0-1;1-2;2-3", "w3,0;d3,0;d2,1;w3,0;d3,1", 3,
            "d2,1 2-3 1-2 w1,0 d1,0 w1,0 d1,2");
        GatesOnBoard x = Cases.with(4, "4;0-1", "c0,2");
        is("22: given up behind 40 swaps of 0-1", x.route(0, 0), -6);
        Cases.board(x, "4;0-1;1-2;2-3;3-0");
        CASES.is("22: 0 at first, in the next route, too", Cases.routed(x, 0), "0-1 c1,2");
        Cases.board(x, "4;0-1");
        x.route(10, 0);
        Cases.board(x, "4;0-1;1-2;2-3;3-0");
        CASES.is("22: 0 at first, in the next loose route, too", Cases.routed(x, 10), "0-1 c1,2");
    }

    private static void lookedAhead() {
        String[][] two = {
            {"4", STAR_OF_4, "c3,2;d3,0", "0-2 c3,0 0-2 d3,0", "0-3 c0,2 d0,3"},
            {"3", CROSS, "w2,1;w2,1;w1,0", "2-4 w4,1 w4,1 0-2 1-4 w4,2", "1-4 w2,4 w2,4 0-2 w4,2"},
            {"4", "5;0-1;1-2;2-3;3-4;4-0", "w3,1;w2,3;w3,1;w2,0", "2-3 w2,1 w3,2 w2,1 3-4 w4,0",
                "1-2 w3,2 2-3 w1,2 w2,3 w1,0"},
            {"3", CROSS, "c0,1;d1,0;d0,1;w2,1;c0,1", "1-4 2-4 c0,2 d2,0 d0,2 w4,2 c0,2",
                "1-4 0-2 c2,4 d4,2 d2,4 2-4 w0,2 c4,2"},
            {"3", STAR_OF_4, "c2,1;c2,1;w2,0;d0,1;c2,1;w0,2", "0-1 c2,0 c2,0 0-1 w2,0 d0,1 0-2 c0,1 w2,0",
                "0-2 c0,1 c0,1 w0,2 0-1 d2,0 c1,0 0-1 w2,0"}};
        for (int look = 1; look <= 5; look++) {
            String[] is = two[look - 1];
            int n = is[0].charAt(0) - '0';
            routed("what look " + (look - 1) + " does not see", n, is[1], is[2], look - 1, is[3]);
            routed("what look " + look + " sees", n, is[1], is[2], look, is[4]);
        }
        String[][] loose = {
            {"3", ROW_OF_3, "w2,0;d1,2", "0-1 w2,1 0-1 d1,2", "1-2 w1,0 d2,1"},
            {"3", "4;0-1;1-2;2-3;3-0", "w2,0;w1,2;w1,0", "1-2 w1,0 w2,1 0-1 w2,1", "0-1 w2,1 0-1 w1,2 w1,0"},
            {"4", "5;0-1;1-2;2-3;3-4;4-0", "w3,1;w2,3;w3,1;w2,0", "2-3 w2,1 w3,2 w2,1 3-4 w4,0",
                "1-2 w3,2 2-3 w1,2 w2,3 w1,0"},
            {"3", CROSS, "c0,1;d1,0;d0,1;w2,1;c0,1", "1-4 2-4 c0,2 d2,0 d0,2 w4,2 c0,2",
                "1-4 0-2 c2,4 d4,2 d2,4 2-4 w0,2 c4,2"},
            {"4", ROW_OF_5, "w1,3;c1,0;w0,3;c0,2;d3,0;d0,2", "2-3 w1,2 c1,0 0-1 w1,2 d2,1 1-2 c2,3 d2,3",
                "1-2 w2,3 0-1 c2,1 2-3 w1,2 c1,0 d2,1 d1,0"}};
        for (int look = 11; look <= 15; look++) {
            String[] is = loose[look - 11];
            int n = is[0].charAt(0) - '0';
            routed("what look " + (look - 1) + " does not see", n, is[1], is[2], look - 1, is[3]);
            routed("what look " + look + " sees", n, is[1], is[2], look, is[4]);
        }
    }

    private static void fromTheLayout() {
        GatesOnBoard x = Cases.with(3, ROW_OF_3, "c0,2");
        x.place(0, 1);
        CASES.is("22: from the layout", Cases.routed(x, 0), "c1,2");
        is("22: line 0 behind it", x.route(0, 10), 1);
        is("22: line 1 behind it", x.route(0, 11), 0);
        Cases.circuit(x, "c1,2");
        is("22: a swap", x.route(0, 0), 1);
        is("22: line 1 behind the swap", x.route(0, 11), 1);
        is("22: the layout stays", x.layout(1), 0);
        is("24: from the layout", x.fewest(), 1);
        is("25: loose from the layout", x.fewestOf(0), 1);
        is("22: what is drawn stays", x.count(3), 1);
    }

    // ---- promise 23

    private static void routedGates() {
        GatesOnBoard x = Cases.with(3, "4;1-0;2-1", "r5,2;h0;c0,2;w0,1");
        int[][] want = {{0, 2, -2, 5, 0}, {1, 0, -2, -2, 0}, {5, 0, 1, -2, 1}, {3, 1, 2, -2, 0}, {5, 1, 0, -2, 0}};
        String[] whats = {"kind", "its place or a", "b, or none: -2", "K, or no r: -2", "whether a swap"};
        for (int i = 0; i < 5; i++) {
            for (int what = 0; what < 5; what++) {
                is("23: gate " + i + ", " + whats[what], x.routed(0, i, what), want[i][what]);
            }
        }
        for (int i : new int[] {5, 6, 69, 70, 71, GREATEST}) {
            is("23: there are not so many: " + i, x.routed(0, i, 0), -4);
            is("23: there are not so many, loose: " + i, x.routed(10, i, 4), -4);
            is("23: there are not so many, no what: NONE comes first", x.routed(0, i, 5), -1);
        }
        for (int i : new int[] {LEAST, -2, -1}) {
            is("23: i " + i, x.routed(0, i, 0), -1);
        }
        is("23: no gates: there is no gate 0", Cases.with(2, "2", "").routed(0, 0, 0), -4);
        x = Cases.with(2, "2", "c0,1");
        is("23: given up", x.routed(5, 0, 0), -6);
        is("23: given up, loose", x.routed(15, 0, 0), -6);
        is("23: given up, not so many", x.routed(0, 1, 0), -6);
    }

    // ---- promises 24, 25

    /** On a row of three each second one of these gates needs a swap. */
    private static String turns(int size) {
        StringBuilder text = new StringBuilder();
        for (int g = 0; g < size; g++) {
            text.append(g > 0 ? ";" : "").append(g % 3 == 0 ? "w0,2" : g % 3 == 1 ? "w0,1" : "w1,2");
        }
        return text.toString();
    }

    private static void fewest() {
        for (int size = 0; size <= 15; size++) {
            GatesOnBoard x = Cases.with(3, ROW_OF_3, turns(size));
            int due = size > 12 ? -2 : (size + 1) / 2;
            int ofAll = size > 14 ? -2 : size < 2 ? 0 : (size - 1) / 2;
            int first = size > 14 ? -2 : size == 0 ? 12 : size % 2 == 1 ? 21 : 102;
            is("24: " + size + " gates that turn", x.fewest(), due);
            is("25: " + size + " gates that turn, loose", x.fewestOf(0), due);
            is("25: " + size + " gates that turn, of all layouts", x.fewestOf(1), ofAll);
            is("25: " + size + " gates that turn, the first layout", x.fewestOf(2), first);
            is("25: " + size + " gates that turn, of all layouts, loose", x.fewestOf(3), ofAll);
            is("25: " + size + " gates that turn, the first layout, loose", x.fewestOf(4), first);
        }
        GatesOnBoard x = Cases.with(2, ROW_OF_5, "c0,1");
        x.place(1, 4);
        is("24: from one end to the other", x.fewest(), 3);
        x = Cases.with(2, "5;0-1;1-2;2-3", "c0,1");
        x.place(1, 4);
        is("24: never", x.fewest(), -2);
        is("25: never, loose", x.fewestOf(0), -2);
        is("25: not never from another layout", x.fewestOf(1), 0);
        is("24: no gates of two lines, no edges", Cases.with(4, "4", "h0;h3").fewest(), 0);
        is("24: no gates", Cases.with(4, "4", "").fewest(), 0);
        is("25: one line, the first layout", Cases.with(1, "2", "h0").fewestOf(2), 0);
        is("25: four lines on five places, the first layout", Cases.with(4, "5", "").fewestOf(4), 123);
        x = Cases.with(2, "5", "c0,1");
        is("24: no edges: never", x.fewest(), -2);
        for (int what = 0; what < 5; what++) {
            is("25: no edges: never, what " + what, x.fewestOf(what), -2);
            is("25: what " + what + " is there", Cases.with(2, "2;0-1", "c0,1").fewestOf(what), what == 2 || what == 4 ? 1 : 0);
        }
        x = Cases.with(3, ROW_OF_3, "c0,2;c0,1;c1,2");
        is("24: strict if nothing else is told", x.fewest(), 2);
        is("25: loose", x.fewestOf(0), 1);
        is("25: the first layout, strict", x.fewestOf(2), 21);
        is("25: the first layout, loose", x.fewestOf(4), 12);
        x = Cases.with(3, ROW_OF_3, "c0,1;c0,2;h0;h1;h2;c0,1;c1,2");
        is("24: gates are done whenever they can be, between swaps, too", x.fewest(), 2);
    }

    /** What was sought before on the same object tells nothing of another circuit, another board. */
    private static void soughtBefore() {
        GatesOnBoard x = Cases.with(3, ROW_OF_3, turns(13));
        x.fewest();
        Cases.circuit(x, turns(1));
        is("24: another circuit", x.fewest(), 1);
        Cases.circuit(x, turns(13));
        x.fewestOf(0);
        Cases.circuit(x, turns(3));
        is("25: another circuit, loose", x.fewestOf(0), 2);
        Cases.circuit(x, turns(15));
        x.fewestOf(1);
        Cases.circuit(x, turns(3));
        is("25: another circuit, of all layouts", x.fewestOf(1), 1);
        is("25: another circuit, the first layout", x.fewestOf(2), 21);
        Cases.board(x, "3;0-1");
        x.fewest();
        Cases.board(x, ROW_OF_3);
        is("24: another board", x.fewest(), 2);
        Cases.board(x, "3;0-1");
        x.fewestOf(3);
        Cases.board(x, ROW_OF_3);
        is("25: another board, of all layouts", x.fewestOf(3), 1);
    }

    private static void sixOfAll() {
        GatesOnBoard x = Cases.with(4, "5;0-1;1-2;2-3;3-4;4-0", "");
        Cases.gates(x, PromiseTests.SIX);
        is("24: six, on a ring", x.fewest(), 6);
        x = Cases.with(3, "5;0-1;1-2;2-3;3-4;4-1", "");
        Cases.gates(x, PromiseTests.SIX_LOOSE);
        is("25: six, loose", x.fewestOf(0), 6);
        x = Cases.with(4, ROW_OF_5, "");
        Cases.gates(x, PromiseTests.SIX_OF_ALL);
        is("25: six, of all layouts", x.fewestOf(1), 6);
        is("25: six, the first layout", x.fewestOf(2), 1302);
        x = Cases.with(4, "4;0-1;1-2;2-3", "");
        Cases.gates(x, PromiseTests.SIX_OF_ALL_LOOSE);
        is("25: six, of all layouts, loose", x.fewestOf(3), 6);
        is("25: six, the first layout, loose", x.fewestOf(4), 132);
    }

    private static void fewestRefused() {
        for (int what : new int[] {LEAST, -1, 5, 6, GREATEST}) {
            is("25: no what " + what, Cases.with(2, "2;0-1", "c0,1").fewestOf(what), -1);
            is("25: no what " + what + ", more lines than places: NONE comes first",
                Cases.with(3, "2;0-1", "c0,1").fewestOf(what), -1);
        }
        for (int m = 2; m <= 3; m++) {
            GatesOnBoard x = Cases.with(m + 1, m + ";0-1", "h0");
            is("24: more lines than places, " + m, x.fewest(), -3);
            for (int what = 0; what < 5; what++) {
                is("25: more lines than places, " + m + ", what " + what, x.fewestOf(what), -3);
            }
        }
        is("24: as many lines as places", Cases.with(3, "3", "h0").fewest(), 0);
    }

    // ---- promise 29

    private static void best(String name, int n, String board, String circuit, int what, String want) {
        GatesOnBoard x = Cases.with(n, board, circuit);
        CASES.is("29: " + name + ": " + circuit + " on " + board, x.bestLook(what) + " " + x.bestLook(what + 1), want);
    }

    private static void bestLooks() {
        best("no gates: the lowest", 2, "2;0-1", "", 0, "0 0");
        best("no gates: the lowest, loose", 2, "2;0-1", "", 2, "10 0");
        best("of like ones the lowest", 4, "5;0-1;0-2;0-3;0-4", "c3,0;c3,1", 0, "0 1");
        best("of like ones the lowest, loose", 4, "5;0-1;0-2;0-3;0-4", "c3,0;c3,1", 2, "10 1");
        best("look 1", 4, STAR_OF_4, "c3,2;d3,0", 0, "1 1");
        best("look 2", 3, CROSS, "w2,1;w2,1;w1,0", 0, "2 2");
        best("look 3", 4, STAR_OF_4, "w3,1;w3,1;d1,3;w3,2", 0, "3 1");
        best("look 4", 3, CROSS, "d2,1;d2,1;d1,2;w1,2;w0,1", 0, "4 2");
        best("look 5", 4, "4;0-1;1-2;2-3", "w0,3;d0,1;d0,3;d0,2;c0,3;d2,1", 0, "5 4");
        best("look 11", 3, ROW_OF_3, "w2,0;d1,2", 2, "11 1");
        best("look 12", 3, "4;0-1;1-2;2-3;3-0", "w2,0;c0,2;c1,2", 2, "12 1");
        best("look 13", 4, "5;0-1;1-2;2-3;3-4;4-0", "w1,3;c3,1;d0,3;w3,2", 2, "13 2");
        best("look 14", 4, "5;0-1;1-2;2-0;2-3;3-4", "d3,1;c3,1;w3,1;w3,1;w2,3", 2, "14 1");
        best("look 15", 4, ROW_OF_5, "w3,1;w2,1;w3,0;d3,1;w3,1;w0,3", 2, "15 2");
        best("all are given up", 2, "2", "c0,1", 0, "-2 -2");
        best("all are given up, loose", 2, "2", "c0,1", 2, "-2 -2");
        GatesOnBoard x = Cases.with(4, ROW_OF_5, "");
        Cases.gates(x, PromiseTests.BEYOND_FORTY);
        is("29: one is given up, another is the best", x.bestLook(0), 1);
        is("29: one is given up, how many", x.bestLook(1), 18);
        Cases.gates(x, PromiseTests.BEYOND_FORTY_LOOSE);
        is("29: one is given up, another is the best, loose", x.bestLook(2), 11);
        is("29: one is given up, how many, loose", x.bestLook(3), 20);
        for (int what : new int[] {LEAST, -1, 4, 5, GREATEST}) {
            is("29: no what " + what, Cases.with(2, "2", "h0").bestLook(what), -1);
            is("29: no what " + what + ", more lines than places: NONE comes first",
                Cases.with(3, "2", "h0").bestLook(what), -1);
        }
        for (int m = 2; m <= 3; m++) {
            for (int what = 0; what < 4; what++) {
                is("29: more lines than places, " + m + ", what " + what, Cases.with(m + 1, "" + m, "").bestLook(what), -3);
            }
        }
    }

    public static void main(String[] args) {
        looks();
        whats();
        ends();
        order();
        fronts();
        costs();
        wear();
        lookedAhead();
        fromTheLayout();
        routedGates();
        fewest();
        soughtBefore();
        sixOfAll();
        fewestRefused();
        bestLooks();
        CASES.end();
    }
}
