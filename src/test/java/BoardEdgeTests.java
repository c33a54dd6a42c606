/** Promises 8, 18 to 21: boards and layouts, one case for each edge that the document names. */
public final class BoardEdgeTests {
    private static final Cases CASES = new Cases();
    private static final String ALL_OF_FIVE = "5;0-1;0-2;0-3;0-4;1-2;1-3;1-4;2-3;2-4;3-4";
    private static final int LEAST = Integer.MIN_VALUE;
    private static final int GREATEST = Integer.MAX_VALUE;

    private BoardEdgeTests() {
    }

    private static void is(String name, long got, long want) {
        CASES.is(name, got, want);
    }

    private static void is(String name, boolean got, boolean want) {
        CASES.is(name, got, want);
    }

    /** The places of all lines, then the lines at all places. */
    private static String told(GatesOnBoard x) {
        StringBuilder all = new StringBuilder();
        for (int line = 0; line < x.count(1); line++) {
            all.append(x.layout(line)).append(' ');
        }
        for (int p = 0; p < x.boardIs(0); p++) {
            all.append(' ').append(x.layout(10 + p));
        }
        return all.toString();
    }

    // ---- promise 8

    private static void place(String name, int n, String board, int line, int place, String want) {
        CASES.begin("8: " + name + ": " + line + " at " + place + " of " + board);
        GatesOnBoard x = Cases.with(n, board, "h0");
        boolean isDue = !want.equals("no");
        String before = told(x);
        CASES.due("place", x.place(line, place), isDue);
        CASES.due("layout", told(x), isDue ? want : before);
    }

    private static void places() {
        place("the last place of the greatest board", 2, "5", 0, 4, "4 1  -2 1 -2 -2 0");
        place("the first place", 2, "5", 1, 0, "1 0  1 0 -2 -2 -2");
        place("what was there goes where the line was", 4, "4", 0, 3, "3 1 2 0  3 1 2 0");
        place("the last line", 4, "4", 3, 1, "0 3 2 1  0 3 2 1");
        place("where it is", 3, "4", 2, 2, "0 1 2  0 1 2 -2");
        place("one line on two places", 1, "2;0-1", 0, 1, "1  -2 0");
        place("as many lines as places", 2, "2;0-1", 0, 1, "1 0  1 0");
        for (int n = 1; n <= 4; n++) {
            for (int line : new int[] {LEAST, -1, n, n + 1, GREATEST}) {
                place("no such line of " + n, n, "5", line, 0, "no");
            }
            place("the last line of " + n, n, "5", n - 1, 4, told(n));
        }
        for (int m = 2; m <= 5; m++) {
            for (int p : new int[] {LEAST, -1, m, m + 1, GREATEST}) {
                place("no such place of " + m, 2, "" + m, 0, p, "no");
            }
        }
        for (int m = 2; m <= 3; m++) {
            GatesOnBoard x = Cases.with(m + 1, "" + m, "h0");
            is("8: one line more than places, " + m, x.place(0, 1), false);
            is("8: more lines than places, where it would be, " + m, x.place(0, 0), false);
            Cases.board(x, "5");
            is("8: refused, line 0 is at place 0, " + m, x.layout(0), 0);
        }
        GatesOnBoard x = Cases.with(3, "5", "h0");
        x.place(0, 4);
        x.place(1, 4);
        CASES.is("8: twice: to the first one's place", told(x), "1 4 2  -2 0 2 -2 1");
        x.place(0, 1);
        CASES.is("8: where it is changes nothing", told(x), "1 4 2  -2 0 2 -2 1");
    }

    private static String told(int n) {
        return n == 1 ? "4  -2 -2 -2 -2 0" : n == 2 ? "0 4  0 -2 -2 -2 1" : n == 3 ? "0 1 4  0 1 -2 -2 2"
            : "0 1 2 4  0 1 2 -2 3";
    }

    // ---- promise 18

    private static GatesOnBoard board(String text) {
        GatesOnBoard x = new GatesOnBoard();
        Cases.board(x, text);
        return x;
    }

    private static void boardIs(String name, String board, int what, int want) {
        is("18: " + name + ": " + board + ", what " + what, board(board).boardIs(what), want);
    }

    private static void boards() {
        for (int m = 2; m <= 5; m++) {
            boardIs("places", m + ";0-1", 0, m);
            boardIs("no edges", "" + m, 1, 0);
            boardIs("no edges: greatest far", "" + m, 2, 99);
            boardIs("no edges: does not hang together", "" + m, 3, 0);
            boardIs("no edge 0, lower", "" + m, 10, -1);
            boardIs("no edge 0, higher", "" + m, 20, -1);
            boardIs("edges at the last place", m + ";0-" + (m - 1), 30 + m - 1, 1);
            boardIs("no place", m + ";0-1", 30 + m, -1);
        }
        boardIs("ten edges", ALL_OF_FIVE, 1, 10);
        boardIs("ten edges: greatest far", ALL_OF_FIVE, 2, 1);
        boardIs("ten edges: hangs together", ALL_OF_FIVE, 3, 1);
        String[] pairs = ALL_OF_FIVE.substring(2).split(";");
        for (int e = 0; e < 10; e++) {
            boardIs("the lower place of edge " + e, ALL_OF_FIVE, 10 + e, pairs[e].charAt(0) - '0');
            boardIs("the higher place of edge " + e, ALL_OF_FIVE, 20 + e, pairs[e].charAt(2) - '0');
        }
        for (int p = 0; p < 5; p++) {
            boardIs("four edges at place " + p, ALL_OF_FIVE, 30 + p, 4);
        }
        for (int what : new int[] {LEAST, -1, 4, 5, 9, 35, 36, 40, GREATEST}) {
            boardIs("no such what", ALL_OF_FIVE, what, -1);
        }
        boardIs("the last of nine edges", ALL_OF_FIVE.substring(0, 37), 18, 2);
        boardIs("no tenth edge, lower", ALL_OF_FIVE.substring(0, 37), 19, -1);
        boardIs("no tenth edge, higher", ALL_OF_FIVE.substring(0, 37), 29, -1);
        boardIs("the edge told the other way round, lower", "3;2-1;1-0", 10, 1);
        boardIs("the edge told the other way round, higher", "3;2-1;1-0", 20, 2);
        boardIs("the second one, lower", "3;2-1;1-0", 11, 0);
        boardIs("the second one, higher", "3;2-1;1-0", 21, 1);
        boardIs("the greatest far of a row", "5;0-1;1-2;2-3;3-4", 2, 4);
        boardIs("the greatest far, told from the other end", "5;4-3;3-2;2-1;1-0", 2, 4);
        boardIs("the greatest far of a ring", "5;0-1;1-2;2-3;3-4;4-0", 2, 2);
        boardIs("the greatest far of two pieces", "5;0-1;2-3;3-4", 2, 99);
        boardIs("two pieces", "5;0-1;2-3;3-4", 3, 0);
        boardIs("one place alone", "3;0-1", 3, 0);
        boardIs("the last edge makes it hang together", "5;0-1;2-3;3-4;1-3", 3, 1);
        boardIs("the smallest board hangs together", "2;0-1", 3, 1);
        boardIs("the smallest board, greatest far", "2;0-1", 2, 1);
        boardIs("no edges at a place", "5;0-1;2-3", 34, 0);
    }

    // ---- promise 19

    private static void fars() {
        for (int m = 2; m <= 5; m++) {
            GatesOnBoard x = board(m + ";0-1");
            is("19: the last place, of " + m, x.far(m - 1, m - 1), 0);
            for (int p : new int[] {LEAST, -1, m, m + 1, GREATEST}) {
                is("19: no place p " + p + " of " + m, x.far(p, 0), -1);
                is("19: no place q " + p + " of " + m, x.far(0, p), -1);
                is("19: no place p and q " + p + " of " + m, x.far(p, p), -1);
            }
        }
        GatesOnBoard x = board("5;3-4;2-3;1-2;0-1");
        for (int p = 0; p < 5; p++) {
            for (int q = 0; q < 5; q++) {
                is("19: in a row, " + p + " and " + q, x.far(p, q), Math.abs(p - q));
            }
        }
        x = board("5;0-1;1-2;2-3;3-4;4-0");
        is("19: the shorter way round", x.far(0, 3), 2);
        is("19: the other way round", x.far(3, 0), 2);
        x = board("5;0-1;2-3");
        is("19: none", x.far(1, 2), 99);
        is("19: none, either way", x.far(2, 1), 99);
        is("19: none, a place alone", x.far(4, 0), 99);
        is("19: a place alone to itself", x.far(4, 4), 0);
        x = board("5;0-1;1-2;2-3;3-4");
        Cases.board(x, "5;0-1");
        is("19: of the board that is, not of the one before", x.far(0, 2), 99);
    }

    // ---- promise 20

    private static void layouts() {
        for (int n = 1; n <= 4; n++) {
            GatesOnBoard x = Cases.with(n, "5;0-1", "h0");
            is("20: the last line of " + n, x.layout(n - 1), n - 1);
            is("20: the last place", x.layout(14), -2);
            is("20: the place of the last line of " + n, x.layout(10 + n - 1), n - 1);
            is("20: the place behind it is free", x.layout(10 + n), -2);
            for (int what : new int[] {LEAST, -1, n, 4, 5, 9, 15, 16, 19, 22, 23, GREATEST}) {
                is("20: no what " + what + " of " + n, x.layout(what), -1);
            }
        }
        for (int m = 2; m <= 5; m++) {
            GatesOnBoard x = board(m + ";0-1");
            is("20: the last place of " + m, x.layout(10 + m - 1), m == 2 ? 1 : -2);
            is("20: no place behind the last of " + m, x.layout(10 + m), -1);
        }
        GatesOnBoard x = Cases.with(3, "2;0-1", "c0,2");
        for (int what : new int[] {0, 1, 2, 10, 11, 20, 21}) {
            is("20: more lines than places, what " + what, x.layout(what), -3);
        }
        for (int what : new int[] {-1, 3, 9, 12, 19, 22}) {
            is("20: more lines than places, no what " + what + ": NONE comes first", x.layout(what), -1);
        }
        x = Cases.with(4, "4;0-1", "");
        is("20: as many lines as places", x.layout(3), 3);
    }

    private static void layout(String name, int n, String board, String circuit, int good, int far) {
        CASES.begin("20: " + name + ": " + circuit + " on " + board);
        GatesOnBoard x = Cases.with(n, board, circuit);
        CASES.due("good", x.layout(20), good);
        CASES.due("far", x.layout(21), far);
    }

    private static void farOfLayouts() {
        layout("no gates", 2, "2", "", 1, 0);
        layout("gates of one line alone", 2, "2", "h0;r3,1;x0", 1, 0);
        layout("a gate that fits", 2, "2;0-1", "c1,0", 1, 0);
        layout("two between", 4, "4;0-1;1-2;2-3", "w0,3", 0, 2);
        layout("each gate", 3, "3;0-1;1-2", "c0,2;c2,0;d0,2;w0,2;c0,1", 0, 4);
        layout("no way", 2, "2", "c0,1", 0, 98);
        layout("30 gates, no way", 2, "2", Cases.many("h0;h1", 3) + ";" + Cases.many("c0,1", 18), 0, 18 * 98);
        layout("one does not fit", 3, "3;0-1;1-2", "c0,1;c1,2;c2,0", 0, 1);
        GatesOnBoard x = Cases.with(3, "3;0-1;1-2", "c0,2;c0,1");
        x.place(0, 1);
        is("20: another layout is good", x.layout(20), 1);
        is("20: far of another layout", x.layout(21), 0);
    }

    // ---- promise 21

    private static void good(String name, int n, String board, String circuit, String want) {
        CASES.begin("21: " + name + ": " + circuit + " on " + board);
        GatesOnBoard x = Cases.with(n, board, circuit);
        CASES.due("good", x.good(0) + " " + x.good(1) + " " + x.good(2) + " " + x.good(3), want);
    }

    private static void goods() {
        good("one line on two places", 1, "2", "h0", "2 0 0 0");
        good("one line on five places", 1, "5", "", "5 0 0 0");
        good("two lines on two places", 2, "2;0-1", "c0,1", "2 1 0 1");
        good("three lines on three places", 3, "3", "", "6 12 0 12");
        good("four lines on four places", 4, "4", "", "24 123 0 123");
        good("four lines on five places", 4, "5", "", "120 123 0 123");
        good("all edges", 4, ALL_OF_FIVE, "c0,1;c1,2;c2,3;c3,0;c0,2;c1,3", "120 123 0 123");
        good("line 0 at place 4", 4, "5;3-4;2-4", "c0,1;c2,0", "4 4230 0 4230");
        good("none is good", 3, "3;0-1;1-2", "c0,1;c1,2;c2,0", "0 -2 1 12");
        good("none is good, the first that has the least", 3, "4;1-2;2-3", "c0,1;c0,1;c1,2;c2,0", "0 -2 1 123");
        good("no edges", 2, "2", "c0,1", "0 -2 98 1");
        good("no edges, 18 gates", 2, "3", Cases.many("c0,1", 18), "0 -2 1764 1");
        good("line 0 first", 2, "3;2-1", "c0,1", "2 12 0 12");
        GatesOnBoard x = Cases.with(2, "3;0-1;1-2", "c0,1");
        x.place(0, 2);
        is("21: the layout that is does not count", x.good(0), 4);
        for (int what : new int[] {LEAST, -1, 4, 5, GREATEST}) {
            is("21: no what " + what, x.good(what), -1);
        }
        for (int m = 2; m <= 3; m++) {
            x = Cases.with(m + 1, "" + m, "");
            for (int what = 0; what < 4; what++) {
                is("21: more lines than places, " + m + ", what " + what, x.good(what), -3);
            }
            is("21: more lines than places, no what: NONE comes first", x.good(4), -1);
            is("21: more lines than places, what -1: NONE comes first", x.good(-1), -1);
        }
    }

    public static void main(String[] args) {
        places();
        boards();
        fars();
        layouts();
        farOfLayouts();
        goods();
        CASES.end();
    }
}
