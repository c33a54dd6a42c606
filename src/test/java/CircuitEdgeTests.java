/** Promises 1, 3, 6, 7, 9, 10, 11, 30: circuits, one case for each edge that the document names. */
public final class CircuitEdgeTests {
    private static final Cases CASES = new Cases();
    private static final int LEAST = Integer.MIN_VALUE;
    private static final int GREATEST = Integer.MAX_VALUE;

    private CircuitEdgeTests() {
    }

    private static void is(String name, long got, long want) {
        CASES.is(name, got, want);
    }

    private static void is(String name, boolean got, boolean want) {
        CASES.is(name, got, want);
    }

    private static GatesOnBoard lines(int n) {
        GatesOnBoard x = new GatesOnBoard();
        x.lines(n);
        return x;
    }

    private static GatesOnBoard circuit(int n, String text) {
        GatesOnBoard x = lines(n);
        Cases.circuit(x, text);
        return x;
    }

    // ---- promise 1

    private static void aNewObject() {
        GatesOnBoard x = new GatesOnBoard();
        is("1: NONE", GatesOnBoard.NONE, -1);
        is("1: no gates", x.count(0), 0);
        is("1: two lines", x.count(1), 2);
        is("1: an empty tape", x.count(2), 0);
        is("1: the seed 1", x.count(3), 1);
        is("1: two places", x.boardIs(0), 2);
        is("1: one edge", x.boardIs(1), 1);
        is("1: edge 0-1", x.boardIs(10) * 10 + x.boardIs(20), 1);
        is("1: both near", x.far(0, 1) * 10 + x.far(1, 0), 11);
        is("1: line 0 at place 0", x.layout(0), 0);
        is("1: line 1 at place 1", x.layout(1), 1);
        is("1: place 0 has line 0", x.layout(10), 0);
        is("1: place 1 has line 1", x.layout(11), 1);
        is("1: nothing is kept", x.same(0), -3);
        is("1: nothing is undone", x.undo(), false);
        x.draws(1);
        is("1: drawn from the seed 1", x.count(3), 20196);
        int[] times = {1, 1, 1, 3, 3, 6};
        for (int kind = 0; kind < 6; kind++) {
            x = new GatesOnBoard();
            x.gate(kind, 0, kind == 1 || kind == 2 ? -1 : 1);
            is("1: the time of kind " + kind + " at first", x.lasts(0, 0), times[kind]);
        }
    }

    // ---- promise 3

    private static void setLines() {
        for (int n : new int[] {LEAST, -1, 0, 5, 6, GREATEST}) {
            is("3: no " + n + " lines", new GatesOnBoard().lines(n), false);
            GatesOnBoard x = circuit(3, "h2");
            x.lines(n);
            is("3: refused, the lines stay", x.count(1), 3);
            is("3: refused, the gates stay", x.count(0), 1);
        }
        for (int n = 1; n <= 4; n++) {
            GatesOnBoard x = Cases.with(3, "5;0-1;1-2", "h0;c0,1");
            x.place(0, 4);
            x.place(1, 0);
            x.seed(5);
            x.feed(0, 0, 0, 0, 0);
            is("3: " + n + " lines", x.lines(n), true);
            is("3: so many: " + n, x.count(1), n);
            is("3: no gates", x.count(0), 0);
            is("3: line 0 at place 0, of " + n, x.layout(0), 0);
            is("3: the last line at its place, of " + n, x.layout(n - 1), n - 1);
            is("3: no line behind the last, of " + n, x.layout(n), -1);
            is("3: the place behind the last is free, of " + n, x.layout(10 + n), -2);
            is("3: the board stays", x.boardIs(0) * 10 + x.boardIs(1), 52);
            is("3: X stays", x.count(3), 5);
            is("3: the tape stays", x.count(2), 20);
        }
        GatesOnBoard x = circuit(2, "h0");
        x.lines(2);
        is("3: as many lines as before: no gates all the same", x.count(0), 0);
        x = lines(3);
        is("3: more lines than places are taken", x.count(1), 3);
        is("3: more lines than places have no layout", x.layout(0), -3);
    }

    // ---- promise 6

    private static void kinds() {
        for (int kind : new int[] {LEAST, -1, 6, 7, GREATEST}) {
            is("6: no kind " + kind, lines(3).gate(kind, 0, 1), -1);
            is("6: no kind " + kind + ", b NONE", lines(3).gate(kind, 0, -1), -1);
        }
        for (int k : new int[] {0, 7}) {
            GatesOnBoard x = lines(2);
            is("6: K " + k, x.gate(0, 1, k), 0);
            is("6: K is " + k, x.gateIs(0, 3), k);
        }
        for (int k : new int[] {LEAST, -2, -1, 8, 9, GREATEST}) {
            is("6: no K " + k, lines(2).gate(0, 1, k), -1);
        }
        for (int kind = 1; kind <= 2; kind++) {
            is("6: b is NONE, kind " + kind, lines(2).gate(kind, 1, -1), 0);
            for (int b : new int[] {LEAST, -2, 0, 1, GREATEST}) {
                is("6: b is not NONE, kind " + kind + ": " + b, lines(2).gate(kind, 1, b), -1);
            }
        }
    }

    private static void linesOfGates() {
        for (int n = 1; n <= 4; n++) {
            for (int kind = 0; kind < 6; kind++) {
                int b = kind == 0 ? 3 : kind < 3 ? -1 : 0;
                String of = ", kind " + kind + " of " + n;
                if (kind < 3) {
                    is("6: line 0" + of, lines(n).gate(kind, 0, b), 0);
                    is("6: the last line" + of, lines(n).gate(kind, n - 1, b), 0);
                } else if (n > 1) {
                    is("6: the last line and the first" + of, lines(n).gate(kind, n - 1, 0), 0);
                    is("6: the first line and the last" + of, lines(n).gate(kind, 0, n - 1), 0);
                    is("6: b beyond" + of, lines(n).gate(kind, 0, n), -1);
                    is("6: b NONE" + of, lines(n).gate(kind, 0, -1), -1);
                    is("6: b far below" + of, lines(n).gate(kind, 0, LEAST), -1);
                }
                if (kind >= 3) {
                    is("6: a line twice" + of, lines(n).gate(kind, n - 1, n - 1), -1);
                    is("6: the first line twice" + of, lines(n).gate(kind, 0, 0), -1);
                }
                is("6: a beyond" + of, lines(n).gate(kind, n, b), -1);
                is("6: a below" + of, lines(n).gate(kind, -1, b), -1);
                is("6: a far beyond" + of, lines(n).gate(kind, GREATEST, b), -1);
                is("6: a far below" + of, lines(n).gate(kind, LEAST, b), -1);
            }
        }
    }

    private static void numbersOfGates() {
        GatesOnBoard x = lines(2);
        is("6: the first is number 0", x.gate(1, 0, -1), 0);
        is("6: behind all", x.gate(3, 1, 0), 1);
        CASES.is("6: as they came", Cases.told(x), "h0;c1,0");
        x = circuit(2, Cases.many("h0", 29));
        is("6: the 30th is number 29", x.gate(0, 1, 4), 29);
        is("6: a 31st: -3", x.gate(0, 1, 4), -3);
        is("6: refused, there are 30", x.count(0), 30);
        is("6: a 31st of no kind: NONE comes first", x.gate(6, 0, 1), -1);
        is("6: a 31st on no line: NONE comes first", x.gate(1, 2, -1), -1);
        is("6: a 31st with no K: NONE comes first", x.gate(0, 0, 8), -1);
        is("6: a 31st with a line twice: NONE comes first", x.gate(3, 0, 0), -1);
        x.shortest();
        is("6: where some fell there is room", x.gate(1, 0, -1), 2);
    }

    // ---- promises 7, 30

    private static void drawn(String name, int n, int seed, int many, String want, int behind) {
        CASES.begin(name);
        GatesOnBoard x = lines(n);
        x.seed(seed);
        CASES.due("draws", x.draws(many), many);
        CASES.due("gates", Cases.told(x), want);
        CASES.due("X", x.count(3), behind);
    }

    private static void draws() {
        for (int m : new int[] {LEAST, -1, 0, 11, 12, GREATEST}) {
            GatesOnBoard x = circuit(2, "h0");
            is("7: no " + m + " gates", x.draws(m), -1);
            is("7: refused, X stays", x.count(3), 1);
            is("7: refused, the gates stay", x.count(0), 1);
        }
        is("7: 1", circuit(2, "h0").draws(1), 2);
        is("7: 10", circuit(2, "h0").draws(10), 11);
        is("7: 10 up to 30", circuit(2, Cases.many("h0", 20)).draws(10), 30);
        is("7: 10 up to 31: -3", circuit(2, Cases.many("h0", 21)).draws(10), -3);
        is("7: 1 up to 30", circuit(2, Cases.many("h0", 29)).draws(1), 30);
        GatesOnBoard x = circuit(2, Cases.many("h0", 30));
        is("7: 1 up to 31: -3", x.draws(1), -3);
        is("7: refused, there are 30", x.count(0), 30);
        is("7: refused, X stays at 1", x.count(3), 1);
        is("7: 11 beyond 30: NONE comes first", x.draws(11), -1);
        is("7: 0 beyond 30: NONE comes first", x.draws(0), -1);
        x = circuit(2, "h0");
        x.feed(0, 0, 0, 0, 0);
        is("7: one more", x.draws(1), 2);
        is("7: the tape stays", x.count(2), 20);
        x = circuit(2, "h0");
        x.draws(1);
        CASES.is("7: behind all", Cases.told(x), "h0;d1,0");
        x.lines(1);
        is("7: lines do not set X", x.count(3), 20196);
        drawn("7: one line: kinds modulo 3", 1, 1, 10, "h0;r2,0;h0;h0;r5,0;r0,0;x0;r5,0;x0;h0", 9865);
        drawn("7: two lines: the other one", 2, 0, 10, "h0;w0,1;x1;d1,0;c0,1;d1,0;c0,1;x1;x1;r6,1", 16526);
        drawn("7: three lines", 3, 0, 10, "h1;w2,1;x0;d0,1;c0,2;d2,0;c1,0;x0;x1;r6,0", 16526);
        drawn("7: four lines", 4, 1, 10, "d3,0;w2,0;x1;d3,0;w2,0;d1,3;c0,3;x3;d1,3;w0,3", 46037);
        drawn("7: X wraps around 65536", 2, 65535, 1, "x1", 36397);
    }

    private static void seeds() {
        for (int seed : new int[] {LEAST, -2, -1, 65536, 65537, GREATEST}) {
            GatesOnBoard x = new GatesOnBoard();
            x.seed(8);
            is("30: no seed " + seed, x.seed(seed), false);
            is("30: refused, X stays", x.count(3), 8);
        }
        for (int seed : new int[] {0, 1, 65534, 65535}) {
            GatesOnBoard x = new GatesOnBoard();
            is("30: seed " + seed, x.seed(seed), true);
            is("30: X, too: " + seed, x.count(3), seed);
        }
        GatesOnBoard x = new GatesOnBoard();
        x.draws(7);
        x.seed(1);
        x.circuit(0);
        x.draws(1);
        CASES.is("30: the seed told anew draws the same anew", Cases.told(x), "d1,0");
    }

    // ---- promises 9, 10

    private static void partsOfGates() {
        GatesOnBoard x = circuit(3, "r0,2;r7,0;h1;x2;c2,0;d0,1;w1,2");
        int[][] parts = {{0, 2, -2, 0}, {0, 0, -2, 7}, {1, 1, -2, -2}, {2, 2, -2, -2}, {3, 2, 0, -2}, {4, 0, 1, -2},
            {5, 1, 2, -2}};
        String[] whats = {"kind", "its line or a", "b, or none: -2", "K, or no r: -2"};
        for (int g = 0; g < parts.length; g++) {
            for (int what = 0; what < 4; what++) {
                is("9: gate " + g + ", " + whats[what], x.gateIs(g, what), parts[g][what]);
            }
        }
        for (int what : new int[] {LEAST, -1, 6, 7, GREATEST}) {
            is("9: no what " + what, x.gateIs(0, what), -1);
        }
        for (int g : new int[] {LEAST, -1, 7, 8, 30, GREATEST}) {
            is("9: no gate " + g, x.gateIs(g, 0), -1);
            is("9: no gate " + g + ", depth", x.gateIs(g, 4), -1);
            is("9: no gate " + g + ", loose depth", x.gateIs(g, 5), -1);
            is("10: no gate " + g + ", strict", x.ahead(g, 0), -1);
            is("10: no gate " + g + ", loose", x.ahead(g, 1), -1);
            is("10: no gate " + g + ", commuting", x.ahead(g, 2), -1);
        }
        for (int what : new int[] {LEAST, -1, 3, 4, GREATEST}) {
            is("10: no what " + what, x.ahead(0, what), -1);
        }
        for (int what = 0; what < 6; what++) {
            is("9: no gates, what " + what, new GatesOnBoard().gateIs(0, what), -1);
        }
        for (int what = 0; what < 3; what++) {
            is("10: no gates, what " + what, new GatesOnBoard().ahead(0, what), -1);
        }
    }

    private static void aheads() {
        GatesOnBoard x = circuit(3, "h0;c0,1;h1;h2;c1,2");
        is("10: none ahead of gate 0", x.ahead(0, 0), 0);
        is("10: a gate of a line of its own", x.ahead(3, 0), 0);
        is("10: all ahead of these, no line shared", x.ahead(2, 0), 3);
        is("10: by both lines", x.ahead(4, 0), 15);
        is("10: none of higher numbers", x.ahead(1, 0), 1);
        is("9: depth 1 where none is ahead", x.gateIs(3, 4), 1);
        is("9: depth by the greatest", x.gateIs(4, 4), 4);
        x = circuit(2, "r1,0;h0;r1,0;r1,0");
        is("10: loose, all loose ones ahead of these, though it commutes", x.ahead(2, 1), 3);
        is("10: loose, not those that commute", x.ahead(3, 1), 3);
        is("10: strict, all that share", x.ahead(3, 0), 7);
        is("9: loose depth", x.gateIs(3, 5), 3);
        is("9: depth, strict", x.gateIs(3, 4), 4);
        x = circuit(3, "c0,1;c2,1;h0");
        is("10: loose, no shared line with what it does not wait for", x.ahead(2, 1), 1);
        is("10: strict, through the one between", x.ahead(2, 0), 1);
        x = circuit(3, "h0;c0,1;c2,1;h2");
        is("10: loose, c and c on one b let pass", x.ahead(3, 1), 4);
        is("10: strict, through c and c", x.ahead(3, 0), 7);
        x = circuit(2, Cases.many("h0", 30));
        is("10: 29 ahead of the last of 30", x.ahead(29, 0), (1 << 29) - 1);
        is("10: loose, none of those that are alike", x.ahead(29, 1), 0);
        is("10: 30 commute, itself, too", x.ahead(29, 2), (1 << 30) - 1);
        is("10: of gate 0, those of higher numbers, too", x.ahead(0, 2), (1 << 30) - 1);
        is("9: depth 30", x.gateIs(29, 4), 30);
        is("9: loose depth 1 of 30", x.gateIs(29, 5), 1);
        is("9: gate 30 of 30", x.gateIs(30, 4), -1);
        x = circuit(1, Cases.many("h0;x0", 15));
        is("10: loose, 29 ahead of the last of 30", x.ahead(29, 1), (1 << 29) - 1);
        is("9: loose depth 30", x.gateIs(29, 5), 30);
    }

    private static void commute(String g, String h, boolean want) {
        CASES.begin("10: " + g + " and " + h + (want ? " commute" : " do not commute"));
        CASES.due("told so", circuit(3, g + ";" + h).ahead(0, 2), want ? 3 : 1);
        CASES.due("told the other way round", circuit(3, h + ";" + g).ahead(0, 2), want ? 3 : 1);
        CASES.due("of the second one", circuit(3, g + ";" + h).ahead(1, 2), want ? 3 : 2);
        CASES.due("loose", circuit(3, g + ";" + h).ahead(1, 1), want ? 0 : 1);
    }

    private static void commuting() {
        is("10: one gate commutes with itself", circuit(2, "h0").ahead(0, 2), 1);
        String[] like = {"h0 h1", "c0,1 h2", "r3,0 r5,0", "h0 h0", "x0 x0", "r0,0 h0", "r0,0 x0", "r0,1 c0,1",
            "r0,0 w0,1", "r3,0 c0,1", "r4,0 d0,1", "r3,1 d0,1", "x1 c0,1", "c0,1 c0,1", "c0,1 c0,2", "c0,2 c1,2",
            "c0,1 d0,2", "d0,1 d0,1", "d0,1 d1,0", "d0,1 d1,2", "d0,1 w0,1", "d0,1 w1,0", "w0,1 w0,1", "w0,1 w1,0",
            "w0,1 h2"};
        String[] unlike = {"r4,0 x0", "r1,0 x0", "r7,0 h0", "r4,0 h0", "h0 x0", "r1,1 c0,1", "r4,1 c0,1", "x0 c0,1",
            "x0 d0,1", "x1 d0,1", "h0 c0,1", "h1 c0,1", "h0 d0,1", "c0,1 c1,0", "c0,1 c1,2", "c0,1 c2,0", "c0,1 d0,1",
            "c0,1 d1,2", "d0,1 w0,2", "c0,1 w0,1", "c0,1 w1,2", "w0,1 w1,2", "r1,0 w0,1", "r4,0 w0,1", "h0 w0,1",
            "x1 w0,1"};
        for (String pair : like) {
            commute(pair.split(" ")[0], pair.split(" ")[1], true);
        }
        for (String pair : unlike) {
            commute(pair.split(" ")[0], pair.split(" ")[1], false);
        }
    }

    // ---- promise 11

    private static void circuitAnswers() {
        GatesOnBoard x = new GatesOnBoard();
        for (int what : new int[] {0, 1, 2, 3, 4, 5, 6, 10, 11, 12, 13, 14, 15, 20, 21, 30, 31}) {
            is("11: no gates, what " + what, x.circuitIs(what), 0);
        }
        for (int n = 1; n <= 4; n++) {
            for (int what : new int[] {LEAST, -1, 7, 8, 9, 16, 17, 19, 20 + n, 24, 29, 30 + n, 34, 40, GREATEST}) {
                is("11: no what " + what + " of " + n, lines(n).circuitIs(what), -1);
            }
            x = circuit(n, "r3,0;r2," + (n - 1));
            is("11: the last line's K, of " + n, x.circuitIs(20 + n - 1), n == 1 ? 5 : 2);
            is("11: the last line's gates, of " + n, x.circuitIs(30 + n - 1), n == 1 ? 2 : 1);
        }
        x = circuit(2, Cases.many("h0", 30));
        is("11: 30 gates", x.circuitIs(0), 30);
        is("11: depth 30", x.circuitIs(1), 30);
        is("11: loose depth 1", x.circuitIs(2), 1);
        is("11: 30 of kind 1", x.circuitIs(11), 30);
        is("11: 30 on line 0", x.circuitIs(30), 30);
        is("11: none on line 1", x.circuitIs(31), 0);
        is("11: e 0 behind 30 h", x.circuitIs(4), 0);
        is("11: all shorter would leave none", x.circuitIs(5), 0);
        is("11: the depth of none", x.circuitIs(6), 0);
        is("11: would leave, but nothing falls", x.circuitIs(0), 30);
        x = circuit(4, "h0;h1;h2;h3;c0,1;d0,2;w2,3;r1,3");
        is("11: depth over lines", x.circuitIs(1), 5);
        is("11: loose depth over lines", x.circuitIs(2), 4);
        is("11: of two lines", x.circuitIs(3), 3);
        is("11: e 4", x.circuitIs(4), 4);
        is("11: a gate of two lines is on both", x.circuitIs(32), 3);
        is("11: all shorter leaves all", x.circuitIs(5), 8);
        is("11: and their depth", x.circuitIs(6), 5);
        x = circuit(2, "h0");
        x.gate(2, 1, -1);
        x.gate(2, 1, -1);
        is("11: all shorter leaves, gates that came one by one", x.circuitIs(5), 1);
        x.gate(3, 0, 1);
        is("11: the depth of what is left, gates that came one by one", x.circuitIs(6), 2);
        is("11: K 4 and 4 are 0", circuit(1, "r4,0;r4,0").circuitIs(20), 0);
        is("11: K 7 and 7 are 6", circuit(1, "r7,0;h0;r7,0").circuitIs(20), 6);
        is("11: K of one line alone", circuit(2, "r7,0;r5,1").circuitIs(21), 5);
        is("11: 24 r of K 7", circuit(1, Cases.many("r7,0", 24)).circuitIs(20), 0);
        x = circuit(2, "r2,1;h1;r1,1;c0,1;r7,1;h1;r6,1");
        is("11: e from state 0, not from others", x.circuitIs(4), 0);
        is("11: e from state 1 is another", x.amplitude(1, 1, 4), 1);
        x = circuit(2, "r3,0;c0,1;r5,0;h1;h1;c0,1;h0");
        is("11: all shorter leaves", x.circuitIs(5), 1);
        is("11: the depth of what is left", x.circuitIs(6), 1);
    }

    public static void main(String[] args) {
        aNewObject();
        setLines();
        kinds();
        linesOfGates();
        numbersOfGates();
        draws();
        seeds();
        partsOfGates();
        aheads();
        commuting();
        circuitAnswers();
        CASES.end();
    }
}
