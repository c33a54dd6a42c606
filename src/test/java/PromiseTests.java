/** Each promise of the document by its number: ordinary inputs, the edges, wrong inputs. */
public final class PromiseTests {
    private static final Cases CASES = new Cases();
    private static final long NO_NUMBER = -1000000000000000000L;

    private PromiseTests() {
    }

    private static void due(String call, long got, long want) {
        CASES.due(call, got, want);
    }

    private static void due(String call, boolean got, boolean want) {
        CASES.due(call, got, want);
    }

    private static void aNewObject() {
        CASES.begin("promise 1: a new object");
        GatesOnBoard x = new GatesOnBoard();
        due("NONE", GatesOnBoard.NONE, -1);
        due("gates", x.count(0), 0);
        due("lines", x.count(1), 2);
        due("tape", x.count(2), 0);
        due("X", x.count(3), 1);
        due("places", x.boardIs(0), 2);
        due("edges", x.boardIs(1), 1);
        due("edge, lower", x.boardIs(10), 0);
        due("edge, higher", x.boardIs(20), 1);
        due("far", x.far(1, 0), 1);
        due("line 0", x.layout(0), 0);
        due("line 1", x.layout(1), 1);
        due("depth", x.circuitIs(1), 0);
        due("undo", x.undo(), false);
        due("time of w", gateLasts(x, 5, 0, 1), 6);
    }

    private static int gateLasts(GatesOnBoard x, int kind, int a, int b) {
        x.circuit(0);
        x.gate(kind, a, b);
        return x.lasts(0, 0);
    }

    private static void feeding() {
        CASES.begin("promise 2: feed");
        GatesOnBoard x = new GatesOnBoard();
        for (int many = 20; many <= 140; many += 20) {
            due("feed", x.feed(0, 0, 0, 0, 0), many);
        }
        due("feed beyond 140", x.feed(0, 0, 0, 0, 0), -1);
        due("tape", x.count(2), 140);
        due("circuit of nothing empties", x.circuit(0), 0);
        due("tape", x.count(2), 0);
        due("highest first", x.feed(0x68303B68, 0x313B7830, 0x3B783100, 0, 0xFFFFFFFF), 20);
        due("circuit", x.circuit(11), 4);
        due("gate 0", x.gateIs(0, 0) * 10 + x.gateIs(0, 1), 10);
        due("gate 3", x.gateIs(3, 0) * 10 + x.gateIs(3, 1), 21);
    }

    private static void setLines() {
        CASES.begin("promise 3: lines");
        GatesOnBoard x = Cases.with(2, "5;0-1;1-2;2-3;3-4", "h0;c0,1");
        x.place(0, 4);
        x.seed(77);
        due("lines(0)", x.lines(0), false);
        due("lines(5)", x.lines(5), false);
        due("lines(-1)", x.lines(-1), false);
        due("gates stay", x.count(0), 2);
        due("layout stays", x.layout(0), 4);
        due("lines(2)", x.lines(2), true);
        due("no gates", x.count(0), 0);
        due("layout as at first", x.layout(0) * 10 + x.layout(1), 1);
        due("place 4 is free", x.layout(14), -2);
        due("board stays", x.boardIs(0), 5);
        due("X stays", x.count(3), 77);
        for (int n = 1; n <= 4; n++) {
            due("lines", x.lines(n), true);
            due("count", x.count(1), n);
            due("last line", x.layout(n - 1), n - 1);
            due("no such line", x.layout(n), -1);
        }
    }

    private static void fault(GatesOnBoard x, String text, int want) {
        int before = x.count(0);
        due("circuit " + text, Cases.circuit(x, text), want);
        due("gates stay after " + text, x.count(0), before);
        due("tape is empty after " + text, x.count(2), 0);
    }

    private static void circuits() {
        CASES.begin("promise 4: circuit");
        GatesOnBoard x = new GatesOnBoard();
        x.lines(3);
        due("all kinds", Cases.circuit(x, "r7,2;h1;x0;c2,0;d0,1;w1,2"), 6);
        due("K", x.gateIs(0, 3), 7);
        due("line of r", x.gateIs(0, 1), 2);
        due("control", x.gateIs(3, 1), 2);
        due("target", x.gateIs(3, 2), 0);
        due("kinds", x.gateIs(4, 0) * 10 + x.gateIs(5, 0), 45);
        due("30 gates", Cases.circuit(x, Cases.many("h0", 30)), 30);
        due("r in 120 bytes", Cases.circuit(x, Cases.many("r1,0", 24)), 24);
        due("in place of the one before", Cases.circuit(x, "h2"), 1);
        due("more than the tape has", x.circuit(1), -1);
        x.feed(0x68303B68, 0x303B6830, 0, 0, 0);
        due("21 of 20", x.circuit(21), -1);
        due("below 0", x.circuit(-1), -1);
        due("the tape stays", x.count(2), 20);
        due("2 of 20", x.circuit(2), 1);
        due("all is taken", x.count(2), 0);
        for (int i = 0; i < 7; i++) {
            x.feed(0, 0, 0, 0, 0);
        }
        due("121 of 140", x.circuit(121), -1);
        due("the tape stays", x.count(2), 140);
        due("120 of 140", x.circuit(120), -1000);
        due("0: no gates", x.circuit(0), 0);
        due("count", x.count(0), 0);
        x.place(0, 1);
        x.circuit(0);
        due("more lines than places", x.layout(0), -3);
    }

    private static void circuitFaults() {
        CASES.begin("promise 4: faults of a circuit");
        GatesOnBoard x = new GatesOnBoard();
        Cases.circuit(x, "h0;h1");
        fault(x, "q", -1000);
        fault(x, ";", -1000);
        fault(x, "H0", -1000);
        fault(x, "\u00e8\u00b0", -1000);
        fault(x, "h", -1001);
        fault(x, "ha", -1001);
        fault(x, "h2", -3001);
        fault(x, "h9", -3001);
        fault(x, "h:", -1001);
        fault(x, "h/", -1001);
        fault(x, "r9,0", -3001);
        fault(x, "h0 ", -1002);
        fault(x, "h0,1", -1002);
        fault(x, "h0;", -1003);
        fault(x, "h0;;x1", -1003);
        fault(x, "r", -1001);
        fault(x, "r8,0", -3001);
        fault(x, "r8,2", -3001);
        fault(x, "r7", -1002);
        fault(x, "r7;0", -1002);
        fault(x, "r7,", -1003);
        fault(x, "r7,2", -3003);
        fault(x, "r7,x", -1003);
        fault(x, "c0", -1002);
        fault(x, "c2,2", -3001);
        fault(x, "c0,2", -3003);
        fault(x, "c0,0", -6003);
        fault(x, "d1,1", -6003);
        fault(x, "w1,1;q", -6003);
        fault(x, "w0,1q", -1004);
        fault(x, "c0,1;", -1005);
        String thirty = Cases.many("h0", 30);
        fault(x, thirty + ";h1", -4090);
        fault(x, thirty + ";q", -4090);
        fault(x, thirty + ";", -4090);
        fault(x, thirty + "q", -1089);
        due("29 and what can't stand there", Cases.circuit(x, Cases.many("h0", 29) + ";q"), -1087);
        due("one line: no other", one().circuit(4), -3003);
    }

    private static GatesOnBoard one() {
        GatesOnBoard x = new GatesOnBoard();
        x.lines(1);
        Cases.type(x, "c0,1");
        return x;
    }

    private static void boards() {
        CASES.begin("promise 5: board");
        GatesOnBoard x = new GatesOnBoard();
        Cases.circuit(x, "c0,1");
        due("five in a ring", Cases.board(x, "5;0-1;2-1;2-3;4-3;4-0"), 5);
        due("edge 1 is told lower first", x.boardIs(11) * 10 + x.boardIs(21), 12);
        due("edge 4", x.boardIs(14) * 10 + x.boardIs(24), 4);
        due("circuit stays", x.count(0), 1);
        x.place(0, 3);
        due("a fault", Cases.board(x, "3;0-1;0-3"), -3008);
        due("tape is empty", x.count(2), 0);
        due("board stays", x.boardIs(0), 5);
        due("layout stays", x.layout(0), 3);
        due("no such n", x.board(0), -1);
        x.feed(0x353B302D, 0x313B322D, 0x33000000, 0, 0);
        due("21 of 20", x.board(21), -1);
        due("no such n", x.board(-3), -1);
        due("tape stays", x.count(2), 20);
        due("20 of 20", x.board(20), -1009);
        x.feed(0x35000000, 0, 0, 0, 0);
        due("places without edges", x.board(1), 0);
        due("layout as at first", x.layout(0), 0);
        due("all edges of five", Cases.board(x, ALL_OF_FIVE), 10);
        due("last edge", x.boardIs(19) * 10 + x.boardIs(29), 34);
        for (int i = 0; i < 7; i++) {
            x.feed(0, 0, 0, 0, 0);
        }
        due("61 of 140", x.board(61), -1);
        due("tape stays", x.count(2), 140);
        due("60 of 140", x.board(60), -1000);
    }

    private static final String ALL_OF_FIVE = "5;0-1;0-2;0-3;0-4;1-2;1-3;1-4;2-3;2-4;3-4";

    private static void boardFaults() {
        CASES.begin("promise 5: faults of a board");
        GatesOnBoard x = new GatesOnBoard();
        due("0", Cases.board(x, "0"), -3000);
        due("1", Cases.board(x, "1"), -3000);
        due("6", Cases.board(x, "6"), -3000);
        due("9", Cases.board(x, "9"), -3000);
        due(":", Cases.board(x, ":"), -1000);
        due("q", Cases.board(x, "q"), -1000);
        due(";", Cases.board(x, ";0-1"), -1000);
        due("no ;", Cases.board(x, "3,0-1"), -1001);
        due("two digits", Cases.board(x, "33"), -1001);
        due("; alone", Cases.board(x, "3;"), -1002);
        due("no such P", Cases.board(x, "3;3-0"), -3002);
        due("no digit", Cases.board(x, "3;x-0"), -1002);
        due("no -", Cases.board(x, "3;0,1"), -1003);
        due("the end", Cases.board(x, "3;0"), -1003);
        due("the end", Cases.board(x, "3;0-"), -1004);
        due("no such Q", Cases.board(x, "3;0-3"), -3004);
        due("a place twice", Cases.board(x, "3;1-1"), -6004);
        due("told", Cases.board(x, "3;0-1;0-1"), -6008);
        due("told the other way round", Cases.board(x, "3;0-1;1-0"), -6008);
        due("a fault before", Cases.board(x, "3;1-1;0-9"), -6004);
        due("11th", Cases.board(x, ALL_OF_FIVE + ";0-1"), -4042);
        due("11th, whatever stands there", Cases.board(x, ALL_OF_FIVE + ";q"), -4042);
        due("11th, the end", Cases.board(x, ALL_OF_FIVE + ";"), -4042);
        due("10 and what can't stand there", Cases.board(x, ALL_OF_FIVE + "q"), -1041);
        due("the first board stays", x.boardIs(0), 2);
    }

    private static void gates() {
        CASES.begin("promise 6: gate");
        GatesOnBoard x = new GatesOnBoard();
        x.lines(3);
        due("r", x.gate(0, 2, 7), 0);
        due("h", x.gate(1, 0, -1), 1);
        due("x", x.gate(2, 1, -1), 2);
        due("c", x.gate(3, 2, 0), 3);
        due("d", x.gate(4, 0, 1), 4);
        due("w", x.gate(5, 1, 2), 5);
        due("kind -1", x.gate(-1, 0, 1), -1);
        due("kind 6", x.gate(6, 0, 1), -1);
        due("K 8", x.gate(0, 0, 8), -1);
        due("K -1", x.gate(0, 0, -1), -1);
        due("line 3", x.gate(0, 3, 0), -1);
        due("line -1", x.gate(1, -1, -1), -1);
        due("b of h", x.gate(1, 0, 0), -1);
        due("b of x", x.gate(2, 0, 1), -1);
        due("a twice", x.gate(3, 1, 1), -1);
        due("b -1", x.gate(4, 1, -1), -1);
        due("b 3", x.gate(5, 1, 3), -1);
        due("gates", x.count(0), 6);
        for (int g = 6; g < 30; g++) {
            due("gate", x.gate(1, 0, -1), g);
        }
        due("a 31st", x.gate(1, 0, -1), -3);
        due("a 31st that is none", x.gate(1, 3, -1), -1);
        due("gates", x.count(0), 30);
    }

    private static void drawnGates() {
        CASES.begin("promise 7: draws");
        GatesOnBoard x = new GatesOnBoard();
        due("one", x.draws(1), 1);
        // X 39022: KIND 4; 61307 (odd): LINE 1; 20196: the other one
        due("kind", x.gateIs(0, 0), 4);
        due("line", x.gateIs(0, 1), 1);
        due("other", x.gateIs(0, 2), 0);
        due("X", x.count(3), 20196);
        due("no such m", x.draws(0), -1);
        due("no such m", x.draws(11), -1);
        due("no such m", x.draws(-1), -1);
        due("11", x.draws(10), 11);
        due("21", x.draws(10), 21);
        int drawn = x.count(3);
        due("31", x.draws(10), -3);
        due("no such m comes first", x.draws(11), -1);
        due("X stays", x.count(3), drawn);
        due("30", x.draws(9), 30);
        due("31", x.draws(1), -3);
        x.lines(1);
        x.seed(3);
        int next = 3;
        x.draws(10);
        for (int g = 0; g < 10; g++) {
            next = (25173 * next + 13849) % 65536;
            int kind = next % 3;
            due("kind on one line", x.gateIs(g, 0), kind);
            next = (25173 * next + 13849) % 65536;
            due("line", x.gateIs(g, 1), 0);
            if (kind == 0) {
                next = (25173 * next + 13849) % 65536;
                due("K", x.gateIs(g, 3), next % 8);
            }
        }
        due("X", x.count(3), next);
    }

    private static void places() {
        CASES.begin("promise 8: place");
        GatesOnBoard x = Cases.with(3, "5;0-1;1-2;2-3;3-4", "h0");
        due("to a free place", x.place(0, 4), true);
        due("line 0", x.layout(0), 4);
        due("place 0", x.layout(10), -2);
        due("to a line's place", x.place(1, 2), true);
        due("line 1", x.layout(1), 2);
        due("line 2", x.layout(2), 1);
        due("where it is", x.place(1, 2), true);
        due("line 1", x.layout(1), 2);
        due("line 3", x.place(3, 0), false);
        due("line -1", x.place(-1, 0), false);
        due("place 5", x.place(0, 5), false);
        due("place -1", x.place(0, -1), false);
        due("line 0 stays", x.layout(0), 4);
        Cases.board(x, "2;0-1");
        due("more lines than places", x.place(0, 1), false);
    }

    private static void gateAnswers() {
        CASES.begin("promise 9: gateIs");
        // r1,0 and c0,1 commute; x1 and c0,1 commute; d0,1 waits for both
        GatesOnBoard x = Cases.with(2, "2;0-1", "r1,0;c0,1;x1;d0,1;h1");
        long[][] want = {{0, 0, -2, 1, 1, 1}, {3, 0, 1, -2, 2, 1}, {2, 1, -2, -2, 3, 1}, {4, 0, 1, -2, 4, 2},
            {1, 1, -2, -2, 5, 3}};
        for (int g = 0; g < 5; g++) {
            for (int what = 0; what < 6; what++) {
                due("gateIs " + g + " " + what, x.gateIs(g, what), want[g][what]);
            }
        }
        due("no such gate", x.gateIs(5, 0), -1);
        due("no such gate", x.gateIs(-1, 0), -1);
        due("no such what", x.gateIs(0, 6), -1);
        due("no such what", x.gateIs(0, -1), -1);
    }

    private static void aheads() {
        CASES.begin("promise 10: ahead");
        GatesOnBoard x = Cases.with(3, "3", "h0;c0,1;c1,2;x0;r0,2;h2");
        due("none", x.ahead(0, 0), 0);
        due("one", x.ahead(1, 0), 1);
        due("and what is ahead of it", x.ahead(2, 0), 3);
        due("not what is on other lines", x.ahead(3, 0), 3);
        due("r 0 waits", x.ahead(4, 0), 7);
        due("last", x.ahead(5, 0), 23);
        due("c0,1 and c1,2 do not commute", x.ahead(2, 1), 3);
        due("x0 waits for c0,1", x.ahead(3, 1), 3);
        due("r 0 waits for none", x.ahead(4, 1), 0);
        due("r 0 lets pass", x.ahead(5, 1), 7);
        due("commuting with h0", x.ahead(0, 2), 1 | 4 | 16 | 32);
        due("r 0 commutes with all", x.ahead(4, 2), 63);
        due("no such gate", x.ahead(6, 0), -1);
        due("no such gate", x.ahead(-1, 0), -1);
        due("no such what", x.ahead(0, 3), -1);
        due("no such what", x.ahead(0, -1), -1);
        due("no gates", new GatesOnBoard().ahead(0, 2), -1);
    }

    /** All pairs of gates of three lines: commuting as is told and as is seen. */
    private static void commuting() {
        CASES.begin("promise 10: which gates commute");
        java.util.List<int[]> all = new java.util.ArrayList<>();
        for (int a = 0; a < 3; a++) {
            for (int b = -1; b < 8; b++) {
                for (int kind = 0; kind < 6; kind++) {
                    boolean isOne = kind == 0 ? b >= 0 : kind < 3 ? b < 0 : b >= 0 && b < 3 && a != b;
                    if (isOne) {
                        all.add(new int[] {kind, a, b});
                    }
                }
            }
        }
        due("gates", all.size(), 24 + 6 + 18);
        for (int[] g : all) {
            for (int from = 0; from < all.size(); from += 29) {
                GatesOnBoard x = new GatesOnBoard();
                x.lines(3);
                x.gate(g[0], g[1], g[2]);
                int want = 1;
                for (int i = from; i < Math.min(from + 29, all.size()); i++) {
                    int[] h = all.get(i);
                    int number = x.gate(h[0], h[1], h[2]);
                    want |= Model.commute(g, h) ? 1 << number : 0;
                }
                due("with " + g[0] + " " + g[1] + " " + g[2], x.ahead(0, 2), want);
            }
        }
    }

    private static void circuitAnswers() {
        CASES.begin("promise 11: circuitIs");
        GatesOnBoard x = Cases.with(3, "3", "h0;c0,1;r5,2;c0,1;r6,2;d1,2;w0,2;x1");
        due("gates", x.circuitIs(0), 8);
        due("depth", x.circuitIs(1), 5);
        due("loose depth", x.circuitIs(2), 4);
        due("of two lines", x.circuitIs(3), 4);
        due("e", x.circuitIs(4), 1);
        GatesOnBoard other = Cases.with(2, "2;0-1", "r2,1;h1;r1,1;c0,1;r7,1;h1;r6,1");
        due("e from state 0", other.circuitIs(4), 0);
        due("e from state 1", other.amplitude(1, 1, 4), 1);
        due("all shorter leaves", x.circuitIs(5), 5);
        due("their depth", x.circuitIs(6), 3);
        long[] kinds = {2, 1, 1, 2, 1, 1};
        for (int k = 0; k < 6; k++) {
            due("of kind " + k, x.circuitIs(10 + k), kinds[k]);
        }
        due("turns on 0", x.circuitIs(20), 0);
        due("turns on 2, modulo 8", x.circuitIs(22), 3);
        due("on line 0", x.circuitIs(30), 4);
        due("on line 1", x.circuitIs(31), 4);
        due("on line 2", x.circuitIs(32), 4);
        for (int what : new int[] {-1, 7, 9, 16, 19, 23, 29, 33, 40, Integer.MIN_VALUE, Integer.MAX_VALUE}) {
            due("no such what " + what, x.circuitIs(what), -1);
        }
        due("nothing changes", x.count(0), 8);
    }

    private static void amplitudes() {
        CASES.begin("promise 12: amplitude");
        GatesOnBoard x = Cases.with(2, "2;0-1", "h0;r1,0;h0");
        // (1 + u) / 2 and (1 - u) / 2
        long[] zero = {1, 1, 0, 0, 2};
        long[] one = {1, -1, 0, 0, 2};
        for (int what = 0; what < 5; what++) {
            due("0 to 0", x.amplitude(0, 0, what), zero[what]);
            due("0 to 1", x.amplitude(0, 1, what), one[what]);
            due("0 to 2", x.amplitude(0, 2, what), what == 4 ? 2 : 0);
            due("2 to 3", x.amplitude(2, 3, what), one[what]);
        }
        Cases.circuit(x, "h0;h0;h1;h1");
        due("normal", x.amplitude(3, 3, 0), 1);
        due("e", x.amplitude(3, 3, 4), 0);
        Cases.circuit(x, "d0,1;r2,0;c0,1");
        due("c after d", x.amplitude(3, 1, 2), -1);
        due("x of c", x.amplitude(1, 3, 2), 1);
        Cases.circuit(x, "w0,1;x1");
        due("w, x", x.amplitude(1, 0, 0), 1);
        due("from -1", x.amplitude(-1, 0, 0), NO_NUMBER);
        due("from 4", x.amplitude(4, 0, 0), NO_NUMBER);
        due("to -1", x.amplitude(0, -1, 0), NO_NUMBER);
        due("to 4", x.amplitude(0, 4, 0), NO_NUMBER);
        due("what 5", x.amplitude(0, 0, 5), NO_NUMBER);
        due("what -1", x.amplitude(0, 0, -1), NO_NUMBER);
        x.lines(4);
        Cases.circuit(x, "h0;h1;h2;h3");
        due("e of four", x.amplitude(15, 15, 4), 4);
        due("sign", x.amplitude(7, 7, 0), -1);
        due("no state 16", x.amplitude(16, 0, 0), NO_NUMBER);
    }

    private static void chances() {
        CASES.begin("promise 13: chance");
        GatesOnBoard x = Cases.with(1, "2;0-1", "h0;r1,0;h0");
        long[] zero = {2, 1, 2};
        long[] one = {2, -1, 2};
        for (int what = 0; what < 3; what++) {
            due("0 to 0", x.chance(0, 0, what), zero[what]);
            due("0 to 1", x.chance(0, 1, what), one[what]);
        }
        Cases.circuit(x, "h0;r1,0;h0;r2,0");
        due("c", x.amplitude(0, 1, 2), 1);
        due("d", x.amplitude(0, 1, 3), -1);
        due("c and d", x.chance(0, 1, 1), -1);
        Cases.circuit(x, "h0;r1,0;h0;r3,0");
        due("a", x.amplitude(0, 1, 0), 1);
        due("d", x.amplitude(0, 1, 3), 1);
        due("a and d", x.chance(0, 1, 1), -1);
        Cases.circuit(x, "h0;r3,0;h0");
        due("three eighths, p", x.chance(0, 0, 0), 2);
        due("three eighths, q", x.chance(0, 0, 1), -1);
        due("from 2", x.chance(2, 0, 0), NO_NUMBER);
        due("from -1", x.chance(-1, 0, 0), NO_NUMBER);
        due("to 2", x.chance(0, 2, 0), NO_NUMBER);
        due("to -1", x.chance(0, -1, 0), NO_NUMBER);
        due("what 3", x.chance(0, 0, 3), NO_NUMBER);
        due("what -1", x.chance(0, 0, -1), NO_NUMBER);
        x.lines(4);
        x.seed(12345);
        x.draws(10);
        x.draws(10);
        x.draws(10);
        for (int from = 0; from < 16; from += 5) {
            long p = 0;
            long q = 0;
            for (int to = 0; to < 16; to++) {
                p += x.chance(from, to, 0);
                q += x.chance(from, to, 1);
            }
            due("all together is 1", p, 1L << x.chance(from, 0, 2));
            due("all together is 1", q, 0);
        }
    }

    private static void spreads() {
        CASES.begin("promise 14: spread");
        GatesOnBoard x = Cases.with(3, "3", "h0;c0,1");
        due("two of eight", x.spread(0), 2);
        due("two of eight", x.spread(7), 2);
        Cases.circuit(x, "h0;h1;h2;h1");
        due("four of eight", x.spread(3), 4);
        due("no such state", x.spread(8), -1);
        due("no such state", x.spread(-1), -1);
        Cases.circuit(x, "");
        due("no gates", x.spread(5), 1);
    }

    private static void shorterSteps() {
        CASES.begin("promise 15: shorter");
        GatesOnBoard x = Cases.with(2, "2;0-1", "r5,0;c0,1;r3,0;x1;r0,1;c0,1");
        due("r 0 first of all", x.shorter(), 1);
        due("left", x.count(0), 5);
        due("x1 is there", x.gateIs(3, 0), 2);
        due("r and r", x.shorter(), 1);
        due("K", x.gateIs(0, 3), 0);
        due("c is next", x.gateIs(1, 0), 3);
        due("r 0 again", x.shorter(), 1);
        due("c falls past x1", x.shorter(), 2);
        due("left", x.count(0), 1);
        due("x", x.gateIs(0, 0), 2);
        due("none", x.shorter(), 0);
        Cases.circuit(x, "c0,1;c1,0");
        due("c told otherwise", x.shorter(), 0);
        Cases.circuit(x, "d0,1;d1,0");
        due("d either way round", x.shorter(), 2);
        Cases.circuit(x, "w0,1;w1,0");
        due("w either way round", x.shorter(), 2);
        Cases.circuit(x, "h0;h1;h0");
        due("h past another line", x.shorter(), 2);
        due("h1 is left", x.gateIs(0, 1), 1);
        Cases.circuit(x, "x0;h0;x0");
        due("x not past h", x.shorter(), 0);
        Cases.circuit(x, "x0;r4,0;x0");
        due("x not past r 4", x.shorter(), 0);
        Cases.circuit(x, "x1;h0;h0;x1");
        due("the least i first", x.shorter(), 2);
        due("h is left", x.gateIs(0, 0), 1);
        Cases.circuit(x, "x0;x1;x0;x0");
        due("the least j first", x.shorter(), 2);
        due("lines left", x.gateIs(0, 1) * 10 + x.gateIs(1, 1), 10);
        due("no gates", new GatesOnBoard().shorter(), 0);
    }

    private static void shortestOfAll() {
        CASES.begin("promise 16: shortest");
        GatesOnBoard x = Cases.with(2, "2;0-1", "h0;x1;c0,1;r7,0;r1,0;c0,1;x1;h0;d0,1");
        due("all but d", x.shortest(), 8);
        due("left", x.count(0), 1);
        due("d", x.gateIs(0, 0), 4);
        due("none", x.shortest(), 0);
        Cases.circuit(x, Cases.many("r3,1", 24));
        due("24 r with K 72", x.shortest(), 24);
        Cases.circuit(x, "r3,1;h0;r4,1");
        due("one", x.shortest(), 1);
        due("K 7", x.gateIs(0, 3), 7);
    }

    private static void comparing() {
        CASES.begin("promise 17: same");
        GatesOnBoard x = Cases.with(2, "2;0-1", "x0;r4,0;x0;r4,0");
        due("nothing was kept", x.same(0), -3);
        due("no such what", x.same(3), -1);
        due("no such what", x.same(-1), -1);
        x.keep();
        due("the same", x.same(0), 1);
        due("up to no turn", x.same(1), 0);
        Cases.circuit(x, "");
        due("kept is less 1 times this", x.same(0), 0);
        due("turn 4", x.same(1), 4);
        due("exchange", x.same(2), -2);
        x.keep();
        Cases.circuit(x, "x0;r3,0;x0;r3,0");
        due("u to 3 times kept", x.same(1), 3);
        x.keep();
        Cases.circuit(x, "");
        due("the other way round", x.same(1), 5);
        x.keep();
        Cases.circuit(x, "r1,0");
        due("not for all states", x.same(1), -2);
        Cases.circuit(x, "h0;h0;h1;d0,1;h1;c0,1");
        due("the same otherwise", x.same(0), 1);
        Cases.circuit(x, "x0;x1;d0,1;x1;x0");
        due("not from state 0 alone", x.same(0), 0);
        due("not from state 0 alone, turned", x.same(1), -2);
        due("not from state 0 alone, exchanged", x.same(2), -2);
        x.lines(3);
        due("other lines", x.same(0), -3);
        Cases.circuit(x, "h0;c0,1;r1,2");
        x.keep();
        Cases.circuit(x, "r1,2;h0;c0,1;w0,1;w1,2");
        due("0 to 2, 1 to 0, 2 to 1", x.same(2), 4);
        Cases.circuit(x, "r1,2;h0;c0,1;w1,2;w0,1");
        due("0 to 1, 1 to 2, 2 to 0", x.same(2), 3);
        Cases.circuit(x, "");
        x.keep();
        Cases.circuit(x, "w1,2");
        due("0, 2, 1", x.same(2), 1);
        x.lines(2);
        x.undo();
        due("kept stays kept", x.same(0), 1);
    }

    private static void boardAnswers() {
        CASES.begin("promise 18: boardIs");
        GatesOnBoard x = new GatesOnBoard();
        Cases.board(x, "4;3-2;0-1;2-1");
        due("places", x.boardIs(0), 4);
        due("edges", x.boardIs(1), 3);
        due("greatest far", x.boardIs(2), 3);
        due("hangs together", x.boardIs(3), 1);
        due("edge 0", x.boardIs(10) * 10 + x.boardIs(20), 23);
        due("edge 1", x.boardIs(11) * 10 + x.boardIs(21), 1);
        due("edge 2", x.boardIs(12) * 10 + x.boardIs(22), 12);
        due("at 0", x.boardIs(30), 1);
        due("at 2", x.boardIs(32), 2);
        for (int what : new int[] {-1, 4, 9, 13, 19, 23, 29, 34, Integer.MIN_VALUE, Integer.MAX_VALUE}) {
            due("no such what " + what, x.boardIs(what), -1);
        }
        Cases.board(x, "4;0-1;2-3");
        due("greatest far", x.boardIs(2), 99);
        due("hangs together", x.boardIs(3), 0);
        Cases.board(x, "5");
        due("at 4", x.boardIs(34), 0);
    }

    private static void fars() {
        CASES.begin("promise 19: far");
        GatesOnBoard x = new GatesOnBoard();
        Cases.board(x, "5;0-1;1-2;2-3;3-0");
        due("itself", x.far(4, 4), 0);
        due("an edge", x.far(3, 0), 1);
        due("two", x.far(0, 2), 2);
        due("none", x.far(0, 4), 99);
        due("p 5", x.far(5, 0), -1);
        due("q 5", x.far(0, 5), -1);
        due("p -1", x.far(-1, 0), -1);
        due("q -1", x.far(0, -1), -1);
        Cases.board(x, "5;4-3;3-2;2-1;1-0");
        due("four", x.far(0, 4), 4);
    }

    private static void layouts() {
        CASES.begin("promise 20: layout");
        GatesOnBoard x = Cases.with(3, "4;0-1;1-2;2-3", "c0,2;h0;w1,0;d2,0");
        due("line 2", x.layout(2), 2);
        due("place 1", x.layout(11), 1);
        due("place 3", x.layout(13), -2);
        due("not good", x.layout(20), 0);
        due("far", x.layout(21), 2);
        x.place(0, 1);
        due("good", x.layout(20), 1);
        due("far", x.layout(21), 0);
        due("place 0", x.layout(10), 1);
        for (int what : new int[] {-1, 3, 9, 14, 19, 22, Integer.MIN_VALUE}) {
            due("no such what " + what, x.layout(what), -1);
        }
        Cases.board(x, "4;0-1;2-3");
        due("no way", x.layout(21), 196);
        Cases.board(x, "2;0-1");
        due("more lines than places", x.layout(0), -3);
        due("more lines than places", x.layout(11), -3);
        due("more lines than places", x.layout(20), -3);
        due("more lines than places", x.layout(21), -3);
        due("no such line comes first", x.layout(3), -1);
        due("no such place comes first", x.layout(12), -1);
    }

    private static void goodLayouts() {
        CASES.begin("promise 21: good");
        GatesOnBoard x = Cases.with(3, "4;0-1;1-2;2-3", "c0,2;d2,1");
        due("how many", x.good(0), 4);
        due("the first", x.good(1), 21);
        due("least far", x.good(2), 0);
        due("the first that has it", x.good(3), 21);
        Cases.circuit(x, "c0,2;c2,1;d0,1");
        due("none", x.good(0), 0);
        due("no first", x.good(1), -2);
        due("least far", x.good(2), 1);
        due("the first that has it", x.good(3), 12);
        x.lines(4);
        Cases.board(x, "5");
        due("no gates: all", x.good(0), 120);
        due("the first", x.good(1), 123);
        due("what 4", x.good(4), -1);
        due("what -1", x.good(-1), -1);
        Cases.board(x, "3;0-1");
        due("more lines than places", x.good(0), -3);
        due("no such what comes first", x.good(4), -1);
    }

    private static void routes() {
        CASES.begin("promise 22: route");
        GatesOnBoard x = Cases.with(3, "3;0-1;1-2", "c0,2;c0,1;c1,2");
        due("swaps", x.route(0, 0), 2);
        due("gates", x.route(0, 1), 5);
        due("depth", x.route(0, 2), 5);
        due("line 0", x.route(0, 10), 0);
        due("line 1", x.route(0, 11), 1);
        due("line 2", x.route(0, 12), 2);
        due("loose", x.route(10, 0), 1);
        due("the layout stays", x.layout(0) * 100 + x.layout(1) * 10 + x.layout(2), 12);
        for (int look : new int[] {-1, 6, 9, 16, Integer.MAX_VALUE}) {
            due("no such look " + look, x.route(look, 0), -1);
        }
        for (int what : new int[] {-1, 3, 9, 13, 20}) {
            due("no such what " + what, x.route(0, what), -1);
        }
        Cases.board(x, "3;0-1");
        due("given up", x.route(3, 0), -6);
        due("given up", x.route(13, 12), -6);
        Cases.board(x, "3");
        due("no edges", x.route(3, 0), -6);
        Cases.circuit(x, "h0;r3,1");
        due("nothing to fit", x.route(3, 0), 0);
        due("gates", x.route(3, 1), 2);
        due("depth", x.route(3, 2), 1);
        Cases.board(x, "2;0-1");
        due("more lines than places", x.route(0, 0), -3);
        due("no such look comes first", x.route(6, 0), -1);
    }

    private static void lookAndWear() {
        CASES.begin("promise 22: look ahead, wear");
        // by edge 0 line 0 comes to line 2, by edge 1 line 2 comes to line 0: next is c1,2 or c0,1
        GatesOnBoard x = Cases.with(3, "3;0-1;1-2", "c0,2;w1,2");
        due("look 0 takes the lowest edge", x.routed(0, 0, 1) * 10 + x.routed(0, 0, 2), 1);
        due("so w1,2 wants another", x.route(0, 0), 2);
        due("look 1 takes the other", x.routed(1, 0, 1) * 10 + x.routed(1, 0, 2), 12);
        due("and w1,2 fits", x.route(1, 0), 1);
        // a ring of four: two pairs across, each edge brings one nearer
        x = Cases.with(4, "4;0-1;1-2;2-3;3-0", "c0,2;c1,3");
        due("one swap for both", x.route(0, 0), 1);
        due("edge 0", x.routed(0, 0, 1) * 10 + x.routed(0, 0, 2), 1);
        due("behind it", x.route(0, 10) * 10 + x.route(0, 11), 10);
    }

    static final String FORTY =
        "303 313 312 302 332 520 510 313 512 320 503 523 321 513 532 530 313 302 521 301 502 510 330 313 512 323 330 "
        + "313 312 302";
    static final String BEYOND_FORTY =
        "331 330 301 312 332 330 313 321 532 513 330 510 521 331 503 310 502 312 331 323 302 303 302 313 501 320 312 "
        + "331 323 502";
    static final String FORTY_LOOSE =
        "313 510 303 523 320 503 301 520 523 520 331 521 332 520 530 313 501 303 520 523 303 331 501 520 312 331 532 "
        + "302 330 313";
    static final String BEYOND_FORTY_LOOSE =
        "303 502 321 310 303 531 501 312 320 530 523 313 512 501 302 532 530 310 331 523 321 310 303 532 531 312 301 "
        + "320 523 303";

    private static void fortySwaps() {
        CASES.begin("promise 22: forty swaps, and no more");
        GatesOnBoard x = Cases.with(4, "5;0-1;1-2;2-3;3-4", "");
        Cases.gates(x, FORTY);
        due("40", x.route(0, 0), 40);
        due("all gates", x.route(0, 1), 70);
        due("the last one", x.routed(0, 69, 0), 3);
        due("no more", x.routed(0, 70, 0), -4);
        Cases.gates(x, BEYOND_FORTY);
        due("a 41st", x.route(0, 0), -6);
        Cases.gates(x, FORTY_LOOSE);
        due("40, loose", x.route(10, 0), 40);
        Cases.gates(x, BEYOND_FORTY_LOOSE);
        due("a 41st, loose", x.route(10, 0), -6);
        // 40 swaps wear out places 0 and 1; the next route begins without wear
        x = Cases.with(4, "4;0-1", "c0,2");
        due("never", x.route(0, 0), -6);
        Cases.board(x, "4;0-1;1-2;2-3;3-0");
        due("the lowest edge", x.routed(0, 0, 1) * 10 + x.routed(0, 0, 2), 1);
        due("a swap", x.routed(0, 0, 4), 1);
        Cases.circuit(x, "h0");
        due("no swap", x.routed(0, 0, 4), 0);
    }

    private static void costs() {
        CASES.begin("promise 22: costs");
        // front c0,2; next w1,2 and c0,1: by edge 0 FAR 1, 2, 1, by edge 1 1, 1, 2: look 2 finds them alike
        GatesOnBoard x = Cases.with(3, "3;0-1;1-2", "c0,2;w1,2;c0,1");
        due("look 1 by edge 1", x.routed(1, 0, 1), 1);
        due("look 2 by edge 0", x.routed(2, 0, 1), 0);
        // with wear 1 at first it would be 4
        x = Cases.with(4, "4;0-1;1-2;2-3", "c3,0;c3,1;c0,2;c0,2");
        due("no wear at first", x.route(3, 0), modelOf(4, "4;0-1;1-2;2-3", "c3,0;c3,1;c0,2;c0,2").route(3, 0));
        due("three swaps", x.route(3, 0), 3);
        // in a star each swap wears the middle
        x = Cases.with(4, "5;0-1;0-2;0-3;0-4", "c1,2;c2,3;c3,1;c1,2");
        Model model = modelOf(4, "5;0-1;0-2;0-3;0-4", "c1,2;c2,3;c3,1;c1,2");
        for (int look = 0; look < 6; look++) {
            due("star, look " + look, x.route(look, 0), model.route(look, 0));
        }
    }

    private static Model modelOf(int lines, String board, String circuit) {
        Model model = new Model();
        model.lines(lines);
        for (char sign : board.toCharArray()) {
            model.tape.add((int) sign);
        }
        model.board(board.length());
        for (char sign : circuit.toCharArray()) {
            model.tape.add((int) sign);
        }
        model.circuit(circuit.length());
        return model;
    }

    private static void routedGates() {
        CASES.begin("promise 23: routed");
        GatesOnBoard x = Cases.with(3, "4;1-0;2-1", "r5,2;h0;c0,2;w0,1");
        long[][] want = {{0, 2, -2, 5, 0}, {1, 0, -2, -2, 0}, {5, 0, 1, -2, 1}, {3, 1, 2, -2, 0}, {5, 1, 0, -2, 0}};
        due("all", x.route(0, 1), 5);
        for (int i = 0; i < 5; i++) {
            for (int what = 0; what < 5; what++) {
                due("routed " + i + " " + what, x.routed(0, i, what), want[i][what]);
            }
        }
        due("not so many", x.routed(0, 5, 0), -4);
        due("not so many", x.routed(0, Integer.MAX_VALUE, 0), -4);
        due("i -1", x.routed(0, -1, 0), -1);
        due("what 5", x.routed(0, 0, 5), -1);
        due("what -1", x.routed(0, 9, -1), -1);
        due("look 6", x.routed(6, 0, 0), -1);
        Cases.board(x, "4;1-0");
        due("given up", x.routed(0, 0, 0), -6);
        due("given up, not so many", x.routed(0, 99, 0), -6);
        Cases.board(x, "2;1-0");
        due("more lines than places", x.routed(0, 0, 0), -3);
        due("what 5 comes first", x.routed(0, 0, 5), -1);
    }

    private static void theFewest() {
        CASES.begin("promise 24: fewest");
        GatesOnBoard x = Cases.with(3, "3;0-1;1-2", "c0,2;c0,1;c1,2");
        due("strict", x.fewest(), 2);
        due("the layout stays", x.layout(1), 1);
        x.place(1, 2);
        due("from another", x.fewest(), 1);
        x.place(1, 0);
        Cases.circuit(x, "h0;h2");
        due("none needed", x.fewest(), 0);
        x = Cases.with(3, "3;0-1;1-2", "c0,2;h0;h2;c0,1;h1;h0;c1,2;h1;h2;c0,2;h0;h2;c0,1;h1;h0;c1,2;h1;h2");
        // line 0, then line 2, then line 1 in the middle
        due("three", x.fewest(), 3);
        x = Cases.with(3, "3;0-1;1-2", "w0,2;w0,1;w1,2;w0,2;w0,1;w1,2;w0,2;w0,1;w1,2;w0,2;w0,1;w1,2;w0,2");
        due("more than six", x.fewest(), -2);
        Cases.board(x, "3;0-1");
        due("never", x.fewest(), -2);
        Cases.board(x, "2;0-1");
        due("more lines than places", x.fewest(), -3);
        x = Cases.with(4, "5;0-1;1-2;2-3;3-4;4-0", "");
        Cases.gates(x, SIX);
        due("six", x.fewest(), 6);
        x = Cases.with(2, "5;0-1;1-2;2-3;3-4", "c0,1");
        x.place(1, 4);
        due("three between", x.fewest(), 3);
    }

    static final String SIX =
        "410 302 302 410 412 513 412 321 521 431 302 513 502 512 510 503 321 532 502 421 421 320 521";
    static final String SIX_LOOSE =
        "320 302 321 310 302 302 301 310 321 310 302 301 321 321 312 312 321 320 301 312 302 310 310 320";
    static final String SIX_OF_ALL =
        "320 313 303 313 302 312 303 313 303 312 302 312 302 313 302 312 302 312 302 313 302 312 302 312";
    static final String SIX_OF_ALL_LOOSE =
        "423 521 503 303 331 532 421 430 530 301 431 421 313 510 403 423 312 421 503";

    private static void sixOf() {
        CASES.begin("promise 25: fewestOf, six");
        GatesOnBoard x = Cases.with(3, "5;0-1;1-2;2-3;3-4;4-1", "");
        Cases.gates(x, SIX_LOOSE);
        due("loose from the layout", x.fewestOf(0), 6);
        x = Cases.with(4, "5;0-1;1-2;2-3;3-4", "");
        Cases.gates(x, SIX_OF_ALL);
        due("the least strict", x.fewestOf(1), 6);
        due("the first", x.fewestOf(2), 1302);
        x = Cases.with(4, "4;0-1;1-2;2-3", "");
        Cases.gates(x, SIX_OF_ALL_LOOSE);
        due("the least loose", x.fewestOf(3), 6);
        due("the first", x.fewestOf(4), 132);
        Cases.gates(x, "501 512 523 530");
        due("another circuit, from the layout", x.fewestOf(0), 2);
        due("another circuit", x.fewestOf(3), 2);
    }

    private static void theFewestOf() {
        CASES.begin("promise 25: fewestOf");
        GatesOnBoard x = Cases.with(3, "3;0-1;1-2", "c0,2;c0,1;c1,2");
        long[] want = {1, 1, 21, 1, 12};
        for (int what = 0; what < 5; what++) {
            due("fewestOf " + what, x.fewestOf(what), want[what]);
        }
        due("what 5", x.fewestOf(5), -1);
        due("what -1", x.fewestOf(-1), -1);
        Cases.board(x, "3;0-1");
        for (int what = 0; what < 5; what++) {
            due("never " + what, x.fewestOf(what), -2);
        }
        Cases.circuit(x, "c0,2");
        due("not from the layout, but from others: from the layout", x.fewestOf(0), -2);
        due("the least", x.fewestOf(1), 0);
        due("the first that has it", x.fewestOf(2), 21);
        Cases.board(x, "2;0-1");
        for (int what = 0; what < 5; what++) {
            due("more lines than places " + what, x.fewestOf(what), -3);
        }
        due("no such what comes first", x.fewestOf(5), -1);
    }

    private static void spending() {
        CASES.begin("promise 26: spend");
        GatesOnBoard x = new GatesOnBoard();
        int[] first = {1, 1, 1, 3, 3, 6};
        for (int kind = 0; kind < 6; kind++) {
            int b = kind == 0 ? 1 : kind < 3 ? -1 : 1;
            due("at first", gateLasts(x, kind, 0, b), first[kind]);
            due("20", x.spend(kind, 20), true);
            due("20", gateLasts(x, kind, 0, b), 20);
            due("1", x.spend(kind, 1), true);
            due("1", gateLasts(x, kind, 0, b), 1);
            due("0", x.spend(kind, 0), false);
            due("21", x.spend(kind, 21), false);
            due("1 stays", gateLasts(x, kind, 0, b), 1);
        }
        due("kind 6", x.spend(6, 3), false);
        due("kind -1", x.spend(-1, 3), false);
        x.keep();
        x.spend(5, 9);
        x.undo();
        x.lines(2);
        due("nothing but spend changes them", gateLasts(x, 5, 0, 1), 9);
    }

    private static void lasting() {
        CASES.begin("promise 27: lasts");
        GatesOnBoard x = Cases.with(3, "3;0-1;1-2", "c0,2;c0,1;c1,2");
        due("strict", x.lasts(0, 0), 9);
        due("loose", x.lasts(1, 99), 6);
        due("look is not looked at", x.lasts(0, -7), 9);
        due("routed", x.lasts(2, 0), 21);
        due("routed, loose", x.lasts(2, 10), 15);
        x.spend(5, 1);
        due("swaps as kind 5", x.lasts(2, 0), 11);
        due("look 6", x.lasts(2, 6), -1);
        due("look -1", x.lasts(2, -1), -1);
        due("what 3", x.lasts(3, 0), -1);
        due("what -1", x.lasts(-1, 0), -1);
        Cases.board(x, "3;0-1");
        due("given up", x.lasts(2, 0), -6);
        due("strict", x.lasts(0, 0), 9);
        Cases.board(x, "2;0-1");
        due("more lines than places", x.lasts(2, 0), -3);
        due("loose all the same", x.lasts(1, 0), 6);
        due("look 6 comes first", x.lasts(2, 6), -1);
        Cases.circuit(x, "");
        due("no gates", x.lasts(0, 0), 0);
    }

    private static void urgentGates() {
        CASES.begin("promise 28: urgent");
        GatesOnBoard x = Cases.with(3, "3", "h0;h1;x1;c0,1;r1,2");
        due("strict", x.urgent(0), 2 | 4 | 8);
        due("loose: x1 may come behind c0,1", x.urgent(1), 1 | 2 | 8);
        x.spend(1, 5);
        due("h lasts longer, strict", x.urgent(0), 2 | 4 | 8);
        due("h lasts longer, loose", x.urgent(1), 1 | 2 | 8);
        x.spend(0, 20);
        due("r lasts longest", x.urgent(0), 16);
        due("what 2", x.urgent(2), -1);
        due("what -1", x.urgent(-1), -1);
        Cases.circuit(x, "");
        due("no gates", x.urgent(0), 0);
    }

    private static void bestLooks() {
        CASES.begin("promise 29: bestLook");
        GatesOnBoard x = Cases.with(3, "3;0-1;1-2", "c0,2;w1,2");
        due("the look", x.bestLook(0), 1);
        due("how many", x.bestLook(1), 1);
        due("the loose look", x.bestLook(2), 11);
        due("how many", x.bestLook(3), 1);
        due("what 4", x.bestLook(4), -1);
        due("what -1", x.bestLook(-1), -1);
        GatesOnBoard four = Cases.with(4, "4;0-1;1-2;2-3", "");
        Cases.gates(four, "331 320 321 312 303 331 323 303 303 321 332 320 303 330 312 320 303 303 312 321 303 310 301 303");
        due("look 5", four.bestLook(0), 5);
        due("how many", four.bestLook(1), 7);
        four = Cases.with(4, "5;0-1;0-2;0-3;0-4", "");
        Cases.gates(four, "313 302 320 321 331 332 332 302 321 323 321 313 332 321 331 331 303 302 310 313 310 330 312 320");
        due("look 15", four.bestLook(2), 15);
        due("how many", four.bestLook(3), 5);
        Cases.circuit(x, "h0");
        due("of like ones the lowest", x.bestLook(0), 0);
        due("of like ones the lowest", x.bestLook(2), 10);
        Cases.circuit(x, "c0,2");
        Cases.board(x, "3;0-1");
        for (int what = 0; what < 4; what++) {
            due("all are given up", x.bestLook(what), -2);
        }
        Cases.board(x, "2;0-1");
        due("more lines than places", x.bestLook(0), -3);
        due("what 4 comes first", x.bestLook(4), -1);
    }

    private static void seeds() {
        CASES.begin("promise 30: seed");
        GatesOnBoard x = new GatesOnBoard();
        due("0", x.seed(0), true);
        due("X", x.count(3), 0);
        due("65535", x.seed(65535), true);
        due("X", x.count(3), 65535);
        due("65536", x.seed(65536), false);
        due("-1", x.seed(-1), false);
        due("X stays", x.count(3), 65535);
        x.seed(0);
        x.draws(1);
        // X 13849: KIND 1
        due("kind", x.gateIs(0, 0), 1);
    }

    private static void keepAndUndo() {
        CASES.begin("promises 31, 32: keep, undo");
        GatesOnBoard x = Cases.with(3, "5;0-1;1-2;2-3", "h0;c0,1");
        x.place(2, 4);
        x.seed(500);
        due("nothing was kept", x.undo(), false);
        due("keep", x.keep(), 2);
        x.feed(1, 2, 3, 4, 5);
        x.draws(5);
        x.place(0, 3);
        due("board", x.board(1), -1000);
        Cases.board(x, "2;0-1");
        x.lines(1);
        x.feed(1, 2, 3, 4, 5);
        due("undo", x.undo(), true);
        due("lines", x.count(1), 3);
        due("gates", x.count(0), 2);
        due("gate 1", x.gateIs(1, 0), 3);
        due("X", x.count(3), 500);
        due("places", x.boardIs(0), 5);
        due("edges", x.boardIs(1), 3);
        due("far", x.far(0, 3), 3);
        due("line 2", x.layout(2), 4);
        due("place 4", x.layout(14), 2);
        due("the tape stays", x.count(2), 20);
        x.gate(1, 0, -1);
        due("what is kept is not changed", x.undo(), true);
        due("gates", x.count(0), 2);
        x.gate(1, 0, -1);
        due("kept anew", x.keep(), 3);
        x.lines(2);
        due("undo", x.undo(), true);
        due("gates", x.count(0), 3);
    }

    private static void checks() {
        CASES.begin("promise 33: check");
        GatesOnBoard x = Cases.with(2, "2;0-1", "r1,0;h0;x1;c0,1;d0,1;w0,1");
        x.feed(0x00010203, 0x04050000, 0, 0, 0);
        due("all right", x.check(6), -1);
        due("tape is empty", x.count(2), 0);
        x.feed(0x00010203, 0x04050000, 0, 0, 0);
        due("the first ones", x.check(3), -1);
        x.feed(0x00010203, 0x04050000, 0, 0, 0);
        due("behind all nothing is", x.check(7), 6);
        x.feed(0x00010303, 0x04050000, 0, 0, 0);
        due("2", x.check(6), 2);
        x.feed(0x01010203, 0x04050000, 0, 0, 0);
        due("0", x.check(6), 0);
        x.feed(0xFF010203, 0x04050000, 0, 0, 0);
        due("255 is not -1", x.check(1), 0);
        x.feed(0x00010203, 0x04050000, 0, 0, 0);
        due("more than the tape has", x.check(21), -2);
        due("below 0", x.check(-1), -2);
        due("tape stays", x.count(2), 20);
        x.feed(0, 0, 0, 0, 0);
        due("31", x.check(31), -2);
        due("tape stays", x.count(2), 40);
        due("30", x.check(30), 6);
        due("none", x.check(0), -1);
        x.feed(0xFFFFFFFF, 0, 0, 0, 0);
        x.circuit(0);
        x.feed(0xFFFFFFFF, 0, 0, 0, 0);
        due("no gates", x.check(1), 0);
        x.feed(0, 0, 0, 0, 0);
        due("0 empties, too", x.check(0), -1);
        due("tape is empty", x.count(2), 0);
    }

    private static void counts() {
        CASES.begin("promise 34: count");
        GatesOnBoard x = Cases.with(4, "5", "h0;h1;h2");
        x.seed(9);
        x.feed(0, 0, 0, 0, 0);
        due("gates", x.count(0), 3);
        due("lines", x.count(1), 4);
        due("tape", x.count(2), 20);
        due("X", x.count(3), 9);
        due("4", x.count(4), -1);
        due("-1", x.count(-1), -1);
    }

    public static void main(String[] args) {
        aNewObject();
        feeding();
        setLines();
        circuits();
        circuitFaults();
        boards();
        boardFaults();
        gates();
        drawnGates();
        places();
        gateAnswers();
        aheads();
        commuting();
        circuitAnswers();
        amplitudes();
        chances();
        spreads();
        shorterSteps();
        shortestOfAll();
        comparing();
        boardAnswers();
        fars();
        layouts();
        goodLayouts();
        routes();
        lookAndWear();
        fortySwaps();
        costs();
        routedGates();
        theFewest();
        theFewestOf();
        sixOf();
        spending();
        lasting();
        urgentGates();
        bestLooks();
        seeds();
        keepAndUndo();
        checks();
        counts();
        CASES.end();
    }
}
