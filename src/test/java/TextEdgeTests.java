/** Promises 2, 4, 5, 33: the tape and what is read from it, one case for each edge that the document names. */
public final class TextEdgeTests {
    private static final Cases CASES = new Cases();
    private static final String ALL_OF_FIVE = "5;0-1;0-2;0-3;0-4;1-2;1-3;1-4;2-3;2-4;3-4";

    private TextEdgeTests() {
    }

    private static void is(String name, long got, long want) {
        CASES.is(name, got, want);
    }

    private static GatesOnBoard lines(int n) {
        GatesOnBoard x = new GatesOnBoard();
        x.lines(n);
        return x;
    }

    private static GatesOnBoard withTape(int size) {
        GatesOnBoard x = new GatesOnBoard();
        for (int i = 0; i < size; i += 20) {
            x.feed(0, 0, 0, 0, 0);
        }
        return x;
    }

    // ---- promise 2

    private static void feeding() {
        for (int size = 20; size <= 140; size += 20) {
            is("2: feed answers how many the tape has, " + size, withTape(size - 20).feed(0, 0, 0, 0, 0), size);
        }
        is("2: a 141st byte: NONE", withTape(140).feed(0, 0, 0, 0, 0), -1);
        GatesOnBoard x = withTape(140);
        x.feed(0, 0, 0, 0, 0);
        is("2: refused, the tape stays full", x.count(2), 140);
        x = new GatesOnBoard();
        Cases.type(x, Cases.many("h0", 30));
        while (x.count(2) < 140) {
            x.feed(0, 0, 0, 0, 0);
        }
        x.feed(-1, -1, -1, -1, -1);
        is("2: refused, the bytes stay", x.circuit(89), 30);
        x = new GatesOnBoard();
        x.feed(0x68303B78, 0x313B6331, 0x2C303B68, 0x303B7831, 0x3B72372C);
        x.feed(0x313B6831, 0x3F3F3F3F, 0x3F3F3F3F, 0x3F3F3F3F, 0x3F3F3F3F);
        CASES.begin("2: the highest byte first, int after int, behind what is there");
        CASES.due("circuit", x.circuit(24), 7);
        CASES.due("gates", Cases.told(x), "h0;x1;c1,0;h0;x1;r7,1;h1");
        x = new GatesOnBoard();
        x.gate(0, 0, 0);
        x.feed(0x00FF80FF, 0, 0, 0, 0);
        is("2: a byte of 0 is 0", x.check(1), -1);
        x.feed(0xFFFFFFFF, 0, 0, 0, 0);
        is("2: a byte of 255 is not -1", x.check(1), 0);
        x.feed(0x80000000, 0, 0, 0, 0);
        is("2: a byte of 128 is none of the lesser ones", x.check(1), 0);
        x = withTape(140);
        x.check(1);
        is("2: an emptied tape is fed anew", x.feed(0, 0, 0, 0, 0), 20);
    }

    // ---- promise 4

    private static final String BYTES_119 = Cases.many("c0,1", 24);
    private static final String BYTES_120 = Cases.many("r7,1", 23) + ";h0;x1";
    private static final String BYTES_121 = Cases.many("d0,1", 22) + ";h0;h1;x0;x1";

    private static void circuitLengths() {
        is("4: 0 bytes of an empty tape: no gates", new GatesOnBoard().circuit(0), 0);
        GatesOnBoard x = Cases.with(2, "2;0-1", "h0;c0,1");
        x.feed(0, 0, 0, 0, 0);
        is("4: 0 bytes: no gates", x.circuit(0), 0);
        is("4: 0 bytes: the circuit before is gone", x.count(0), 0);
        is("4: 0 bytes: the tape is empty", x.count(2), 0);
        is("4: -1 bytes: NONE", withTape(20).circuit(-1), -1);
        is("4: the least int: NONE", withTape(20).circuit(Integer.MIN_VALUE), -1);
        is("4: the greatest int: NONE", withTape(140).circuit(Integer.MAX_VALUE), -1);
        is("4: 1 byte of an empty tape: NONE", new GatesOnBoard().circuit(1), -1);
        is("4: 120 bytes of an empty tape: NONE", new GatesOnBoard().circuit(120), -1);
        is("4: 21 bytes of 20: NONE", withTape(20).circuit(21), -1);
        is("4: 1 byte of 20 is taken", withTape(20).circuit(1), -1000);
        x = new GatesOnBoard();
        Cases.type(x, "h0;x1;r0,0;r0,1;d0,1");
        is("4: 20 bytes of 20", x.circuit(20), 5);
        is("4: then the tape is empty", x.count(2), 0);
        is("4: 119 bytes", Cases.circuit(new GatesOnBoard(), BYTES_119), 24);
        is("4: 120 bytes", Cases.circuit(new GatesOnBoard(), BYTES_120), 25);
        is("4: these have 120 bytes", BYTES_120.length(), 120);
        is("4: 121 bytes that could be gates: NONE", Cases.circuit(new GatesOnBoard(), BYTES_121), -1);
        x = new GatesOnBoard();
        Cases.circuit(x, BYTES_121);
        is("4: 121 bytes: the tape stays", x.count(2), 140);
        is("4: 118 bytes of a full tape", x.circuit(118), 25);
        x = withTape(140);
        x.circuit(120);
        is("4: a full tape is empty then", x.count(2), 0);
        x = new GatesOnBoard();
        Cases.type(x, "h0;h1;q");
        is("4: the first n bytes alone", x.circuit(5), 2);
        is("4: what is behind them is gone", x.count(2), 0);
        cut("h0;h1", 1, -1001);
        cut("h0;h1", 3, -1003);
        cut("h0;h1", 4, -1004);
        cut("c0,1", 1, -1001);
        cut("c0,1", 2, -1002);
        cut("c0,1", 3, -1003);
        cut("r1,0", 1, -1001);
        cut("r1,0", 2, -1002);
        cut("r1,0", 3, -1003);
        cut("r1,0;x0", 4, 1);
        cut(Cases.many("h0", 31), 90, -4090);
        cut(Cases.many("h0", 31), 89, 30);
        x = Cases.with(2, "2;0-1", "h0;c0,1;x0");
        Cases.circuit(x, "w1,0");
        CASES.is("4: in place of the one before", Cases.told(x), "w1,0");
        x = new GatesOnBoard();
        Cases.circuit(x, "r0,0;h1;x0;c1,0;d0,1");
        CASES.is("4: what is told, in order", Cases.told(x), "r0,0;h1;x0;c1,0;d0,1");
        x = Cases.with(2, "5;0-1;1-2;2-3;3-4", "h0");
        x.place(1, 4);
        x.seed(12);
        x.keep();
        Cases.circuit(x, "c0,1");
        is("4: the layout stays", x.layout(1), 4);
        is("4: the board stays", x.boardIs(1), 4);
        is("4: X stays", x.count(3), 12);
        is("4: the lines stay", x.count(1), 2);
        is("4: what is kept stays", x.same(0), 0);
        x.undo();
        CASES.is("4: what is kept comes back", Cases.told(x), "h0");
    }

    private static void cut(String text, int n, int want) {
        GatesOnBoard x = new GatesOnBoard();
        Cases.type(x, text);
        is("4: the end at " + n + ", where the tape goes on: " + text, x.circuit(n), want);
    }

    private static void circuitSizes() {
        is("4: one gate", Cases.circuit(new GatesOnBoard(), "h0"), 1);
        is("4: 29 gates", Cases.circuit(new GatesOnBoard(), Cases.many("x1", 29)), 29);
        is("4: 30 gates", Cases.circuit(new GatesOnBoard(), Cases.many("x1", 30)), 30);
        fault("a 31st gate", 2, Cases.many("h0", 31), -4090);
        fault("a 31st gate, no sign of a gate", 2, Cases.many("h0", 30) + ";q", -4090);
        fault("a 31st gate, a ;", 2, Cases.many("h0", 30) + ";;", -4090);
        fault("a 31st gate, a digit", 2, Cases.many("h0", 30) + ";0", -4090);
        fault("a 31st gate, no such line", 2, Cases.many("h0", 30) + ";h9", -4090);
        fault("a 31st gate, the end", 2, Cases.many("h0", 30) + ";", -4090);
        fault("a 31st gate behind longer ones", 2, "c0,1;r1,0;" + Cases.many("h0", 29), -4094);
        fault("behind 30 gates what can't stand there", 2, Cases.many("h0", 30) + "h0", -1089);
        fault("a fault in the 30th gate is first", 2, Cases.many("h0", 29) + ";h2;h0", -3088);
        fault("the 30th gate is none", 2, Cases.many("h0", 29) + ";q", -1087);
        fault("the 30th gate is the end", 2, Cases.many("h0", 29) + ";", -1087);
    }

    /** The fault, that the circuit before stays, that the tape is empty. */
    private static void fault(String what, int n, String text, int want) {
        CASES.begin("4: " + what + ": " + text + " on " + n);
        GatesOnBoard x = lines(n);
        Cases.circuit(x, "h0;r3,0");
        CASES.due("circuit", Cases.circuit(x, text), want);
        CASES.due("the circuit before", Cases.told(x), "h0;r3,0");
        CASES.due("tape", x.count(2), 0);
    }

    private static void circuitFaults() {
        for (char sign : new char[] {0, ' ', ',', ';', '-', '0', 'R', 'H', 'X', 'C', 'D', 'W', 'a', 'b', 's', 'z',
            'r' + 128, 255}) {
            fault("sign " + (int) sign + " is no kind", 2, sign + "0,1", -1000);
            fault("sign " + (int) sign + " is no kind behind a ;", 2, "h0;" + sign + "0,1", -1003);
        }
        fault("the end in place of a gate", 2, "x1;", -1003);
        for (char sign : new char[] {0, ' ', ',', ';', '-', '/', ':', 'r', '0' + 128, 255}) {
            String no = "sign " + (int) sign + " is no digit";
            fault(no + ", K", 2, "r" + sign + ",0", -1001);
            fault(no + ", line of r", 2, "r1," + sign, -1003);
            fault(no + ", line of h", 2, "h" + sign, -1001);
            fault(no + ", line of x", 2, "x" + sign, -1001);
            fault(no + ", a", 2, "c" + sign + ",1", -1001);
            fault(no + ", b", 2, "d0," + sign, -1003);
        }
        for (char sign : new char[] {0, ' ', '0', '1', ';', '-', '+', '.', ',' + 128, 255}) {
            fault("sign " + (int) sign + " is no comma, r", 2, "r1" + sign + "0", -1002);
            fault("sign " + (int) sign + " is no comma, w", 2, "w1" + sign + "0", -1002);
        }
        for (char sign : new char[] {0, ' ', '0', '1', ',', ':', '<', 'h', ';' + 128, 255}) {
            fault("sign " + (int) sign + " is no ;, behind h", 2, "h1" + sign, -1002);
            fault("sign " + (int) sign + " is no ;, behind r", 2, "r1,1" + sign + "h0", -1004);
            fault("sign " + (int) sign + " is no ;, behind c", 2, "c1,0" + sign + "h0", -1004);
        }
        for (String kind : new String[] {"r", "c", "d", "w"}) {
            fault("the end behind the kind", 2, kind, -1001);
            fault("the end behind a digit", 2, kind + "0", -1002);
            fault("the end behind a comma", 2, kind + "0,", -1003);
        }
        fault("the end behind h", 2, "h", -1001);
        fault("the end behind x", 2, "h0;x", -1004);
        fault("h has no second one", 2, "h0,1", -1002);
        fault("x has no K", 2, "x1,0", -1002);
        fault("a blank between", 2, "h0; h1", -1003);
        fault("a blank before", 2, " h0", -1000);
        fault("a blank behind", 2, "h0 ", -1002);
    }

    private static void circuitDigits() {
        is("4: K 0", Cases.circuit(new GatesOnBoard(), "r0,0"), 1);
        is("4: K 7", Cases.circuit(new GatesOnBoard(), "r7,0"), 1);
        fault("no K 8", 2, "r8,0", -3001);
        fault("no K 9", 2, "r9,0", -3001);
        for (int n = 1; n <= 4; n++) {
            int last = n - 1;
            is("4: the last line of r, of " + n, Cases.circuit(lines(n), "r7," + last), 1);
            is("4: the last line of h, of " + n, Cases.circuit(lines(n), "h" + last), 1);
            fault("no such line of r", n, "r7," + n, -3003);
            fault("no such line of h", n, "h" + n, -3001);
            fault("no such line of x", n, "x9", -3001);
            for (String kind : new String[] {"c", "d", "w"}) {
                fault("no such a", n, kind + n + ",0", -3001);
                fault("no such b", n, kind + "0," + n, -3003);
                fault("a line twice", n, kind + last + "," + last, -6003);
                if (n > 1) {
                    is("4: " + kind + " up to the last of " + n, Cases.circuit(lines(n), kind + "0," + last), 1);
                    is("4: " + kind + " from the last of " + n, Cases.circuit(lines(n), kind + last + ",0"), 1);
                }
            }
        }
        is("4: h on its line and c on others: a line twice in one gate alone",
            Cases.circuit(new GatesOnBoard(), "h0;h0;c0,1;c0,1"), 4);
        fault("the first from the left: 6 before 1", 2, "c1,1;q", -6003);
        fault("the first from the left: 3 before 6", 2, "h2;c1,1", -3001);
        fault("the first from the left: 1 before 3", 2, "h0,h2", -1002);
        fault("the first from the left: no such a before twice", 2, "w3,3", -3001);
        fault("twice, in the second gate", 2, "h0;d1,1", -6006);
    }

    // ---- promise 5

    private static void boardLengths() {
        is("5: 0 bytes: NONE", withTape(20).board(0), -1);
        is("5: -1 bytes: NONE", withTape(20).board(-1), -1);
        is("5: the least int: NONE", withTape(20).board(Integer.MIN_VALUE), -1);
        is("5: the greatest int: NONE", withTape(140).board(Integer.MAX_VALUE), -1);
        is("5: 1 byte of an empty tape: NONE", new GatesOnBoard().board(1), -1);
        is("5: 21 bytes of 20: NONE", withTape(20).board(21), -1);
        GatesOnBoard x = withTape(20);
        x.board(21);
        is("5: the tape stays", x.count(2), 20);
        is("5: 20 bytes of 20 are taken", x.board(20), -1000);
        is("5: then the tape is empty", x.count(2), 0);
        is("5: 1 byte", Cases.board(new GatesOnBoard(), "4"), 0);
        is("5: 41 bytes", Cases.board(new GatesOnBoard(), ALL_OF_FIVE), 10);
        String bytes60 = ALL_OF_FIVE + ";0-1;0-1;0-1;0-1;0-";
        is("5: 60 bytes are taken", Cases.board(new GatesOnBoard(), bytes60), -4042);
        x = new GatesOnBoard();
        is("5: 61 bytes: NONE", Cases.board(x, bytes60 + "1"), -1);
        is("5: 61 bytes: the tape stays", x.count(2), 80);
        x = new GatesOnBoard();
        Cases.type(x, "3;0-1;1-2");
        is("5: the first n bytes alone", x.board(5), 1);
        is("5: what is behind them is gone", x.count(2), 0);
    }

    private static void boardsThatAreCut() {
        int[] due = {0, 0, -1002, -1003, -1004, 1, -1006, -1007, -1008, 2};
        for (int n = 1; n < due.length; n++) {
            GatesOnBoard x = new GatesOnBoard();
            Cases.type(x, "3;0-1;1-2;0-2");
            is("5: the end at " + n + ", where the tape goes on", x.board(n), due[n]);
        }
    }

    private static void boardsThatAre() {
        for (int m = 2; m <= 5; m++) {
            GatesOnBoard x = new GatesOnBoard();
            is("5: " + m + " places, no edges", Cases.board(x, "" + m), 0);
            is("5: so many places: " + m, x.boardIs(0), m);
            is("5: an edge to the last place of " + m, Cases.board(x, m + ";0-" + (m - 1)), 1);
            is("5: an edge from the last place of " + m, Cases.board(x, m + ";" + (m - 1) + "-0"), 1);
        }
        GatesOnBoard x = Cases.with(4, "5;0-1;1-2;2-3;3-4", "h3;c0,3");
        x.place(0, 4);
        x.seed(99);
        is("5: fewer places than lines are taken", Cases.board(x, "2;0-1"), 1);
        CASES.is("5: the circuit stays", Cases.told(x), "h3;c0,3");
        is("5: the lines stay", x.count(1), 4);
        is("5: X stays", x.count(3), 99);
        is("5: in place of the one before", x.boardIs(1), 1);
        Cases.board(x, "5;4-3;0-1");
        is("5: the layout as at first", x.layout(0) * 10 + x.layout(10), 0);
        is("5: line 3 at place 3", x.layout(3), 3);
        is("5: place 4 is free", x.layout(14), -2);
        is("5: edges are numbered as told", x.boardIs(10) * 10 + x.boardIs(20), 34);
        is("5: edge 1", x.boardIs(11) * 10 + x.boardIs(21), 1);
        x.place(0, 4);
        Cases.board(x, "5;4-3;0-1");
        is("5: by a like board, too, the layout as at first", x.layout(0), 0);
    }

    private static void boardFault(String what, String text, int want) {
        CASES.begin("5: " + what + ": " + text);
        GatesOnBoard x = Cases.with(2, "4;0-1;1-2", "c0,1");
        x.place(0, 3);
        CASES.due("board", Cases.board(x, text), want);
        CASES.due("tape", x.count(2), 0);
        CASES.due("places", x.boardIs(0), 4);
        CASES.due("edges", x.boardIs(1), 2);
        CASES.due("edge 1", x.boardIs(11) * 10 + x.boardIs(21), 12);
        CASES.due("far", x.far(0, 2), 2);
        CASES.due("far", x.far(0, 3), 99);
        CASES.due("line 0", x.layout(0), 3);
        CASES.due("gates", x.count(0), 1);
    }

    private static void boardFaults() {
        for (int m : new int[] {0, 1, 6, 7, 8, 9}) {
            boardFault("no such m", m + ";0-1", -3000);
        }
        for (char sign : new char[] {0, ' ', '/', ':', ';', '-', 'm', '2' + 128, 255}) {
            boardFault("sign " + (int) sign + " is no digit, m", sign + ";0-1", -1000);
            boardFault("sign " + (int) sign + " is no digit, P", "3;" + sign + "-1", -1002);
            boardFault("sign " + (int) sign + " is no digit, Q", "3;0-" + sign, -1004);
        }
        for (char sign : new char[] {0, ' ', '0', '3', ',', '-', ':', '<', ';' + 128, 255}) {
            boardFault("sign " + (int) sign + " is no ;", "3" + sign + "0-1", -1001);
            boardFault("sign " + (int) sign + " is no ; behind an edge", "3;0-1" + sign + "1-2", -1005);
        }
        for (char sign : new char[] {0, ' ', '0', ',', ';', '.', '+', '-' + 128, 255}) {
            boardFault("sign " + (int) sign + " is no -", "3;0" + sign + "1", -1003);
        }
        boardFault("the end behind a ;", "3;", -1002);
        boardFault("the end behind P", "3;0", -1003);
        boardFault("the end behind the -", "3;0-", -1004);
        boardFault("the end behind the second ;", "3;0-1;", -1006);
        for (int m = 2; m <= 5; m++) {
            boardFault("no such P", m + ";" + m + "-0", -3002);
            boardFault("no such Q", m + ";0-" + m, -3004);
            boardFault("no such P, 9", m + ";9-0", -3002);
            boardFault("a place twice", m + ";1-1", -6004);
            boardFault("told", m + ";0-1;0-1", -6008);
            boardFault("told the other way round", m + ";0-1;1-0", -6008);
        }
        boardFault("no such place before twice", "3;3-3", -3002);
        boardFault("told, not by the edge before", "4;0-1;1-2;2-3;1-0", -6016);
        boardFault("the first from the left: 6 before 1", "3;0-0;q", -6004);
        boardFault("the first from the left: 1 before 6", "3;0,0", -1003);
        boardFault("the first from the left: 3 before 6", "3;0-3;0-0", -3004);
        boardFault("an 11th edge", ALL_OF_FIVE + ";0-1", -4042);
        boardFault("an 11th edge, a new sign", ALL_OF_FIVE + ";q", -4042);
        boardFault("an 11th edge, a ;", ALL_OF_FIVE + ";;", -4042);
        boardFault("an 11th edge, no such place", ALL_OF_FIVE + ";9-9", -4042);
        boardFault("an 11th edge, the end", ALL_OF_FIVE + ";", -4042);
        boardFault("behind ten edges no ;", ALL_OF_FIVE + "q", -1041);
        boardFault("the tenth edge told", ALL_OF_FIVE.substring(0, 37) + ";0-1;3-4", -6040);
    }

    // ---- promise 33

    private static int check(GatesOnBoard x, int n, int... bytes) {
        StringBuilder text = new StringBuilder();
        for (int i = 0; i < 40; i++) {
            text.append((char) (i < bytes.length ? bytes[i] : 0));
        }
        Cases.type(x, text.toString());
        return x.check(n);
    }

    private static GatesOnBoard thirty() {
        return Cases.with(2, "2;0-1", Cases.many("h0", 30));
    }

    private static int[] ones(int right) {
        int[] bytes = new int[30];
        for (int i = 0; i < 30; i++) {
            bytes[i] = i < right ? 1 : 2;
        }
        return bytes;
    }

    private static void checks() {
        GatesOnBoard six = Cases.with(2, "2;0-1", "r1,0;h0;x1;c0,1;d0,1;w0,1");
        is("33: 0 bytes of an empty tape: right", new GatesOnBoard().check(0), -1);
        is("33: 0 bytes, six gates: right", six.check(0), -1);
        is("33: -1: -2", check(six, -1), -2);
        is("33: refused, the tape stays", six.count(2), 40);
        is("33: 31: -2", six.check(31), -2);
        is("33: refused, the tape stays, 31", six.count(2), 40);
        is("33: 30 of 40 are taken", six.check(30), 1);
        is("33: then the tape is empty", six.count(2), 0);
        is("33: 1 of an empty tape: -2", six.check(1), -2);
        is("33: the least int: -2", six.check(Integer.MIN_VALUE), -2);
        is("33: the greatest int: -2", six.check(Integer.MAX_VALUE), -2);
        GatesOnBoard x = withTape(20);
        is("33: 21 of 20: -2", x.check(21), -2);
        is("33: 21 of 20, the tape stays", x.count(2), 20);
        is("33: 20 of 20, no gates", x.check(20), 0);
        is("33: all six are right", check(six, 6, 0, 1, 2, 3, 4, 5), -1);
        is("33: right, the tape is empty", six.count(2), 0);
        is("33: one is right", check(six, 1, 0, 1, 2, 3, 4, 5), -1);
        is("33: behind n nothing is looked at", check(six, 3, 0, 1, 2, 9, 9, 9), -1);
        for (int i = 0; i < 6; i++) {
            int[] bytes = {0, 1, 2, 3, 4, 5};
            bytes[i] = 6;
            is("33: the first that is not so, " + i, check(six, 6, bytes), i);
            bytes[i] = i + 48;
            is("33: a digit is not its number, " + i, check(six, 6, bytes), i);
        }
        is("33: not so, the tape is empty", six.count(2), 0);
        is("33: of two the first", check(six, 6, 0, 1, 9, 9, 4, 5), 2);
        is("33: behind all gates nothing is", check(six, 7, 0, 1, 2, 3, 4, 5, 0), 6);
        is("33: behind all gates not 255 either", check(six, 7, 0, 1, 2, 3, 4, 5, 255), 6);
        is("33: no gates, 1", check(new GatesOnBoard(), 1, 0), 0);
        is("33: 30 gates, 30 bytes", check(thirty(), 30, ones(30)), -1);
        is("33: 30 gates, the last is not so", check(thirty(), 30, ones(29)), 29);
        is("33: 30 gates, 29 bytes", check(thirty(), 29, ones(29)), -1);
        is("33: 29 gates, 30 bytes", check(Cases.with(1, "2", Cases.many("h0", 29)), 30, ones(30)), 29);
    }

    public static void main(String[] args) {
        feeding();
        circuitLengths();
        circuitSizes();
        circuitFaults();
        circuitDigits();
        boardLengths();
        boardsThatAreCut();
        boardsThatAre();
        boardFaults();
        checks();
        CASES.end();
    }
}
