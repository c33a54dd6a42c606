/** Promises 12 to 17: what comes out, shorter, same: one case for each edge that the document names. */
public final class AmplitudeEdgeTests {
    private static final Cases CASES = new Cases();
    private static final long NO_NUMBER = -1000000000000000000L;
    private static final int LEAST = Integer.MIN_VALUE;
    private static final int GREATEST = Integer.MAX_VALUE;

    private AmplitudeEdgeTests() {
    }

    private static void is(String name, long got, long want) {
        CASES.is(name, got, want);
    }

    private static GatesOnBoard circuit(int n, String text) {
        GatesOnBoard x = new GatesOnBoard();
        x.lines(n);
        Cases.circuit(x, text);
        return x;
    }

    /** The four parts and e, as a text. */
    private static String amplitude(GatesOnBoard x, int from, int to) {
        StringBuilder all = new StringBuilder();
        for (int what = 0; what < 5; what++) {
            all.append(what > 0 ? " " : "").append(x.amplitude(from, to, what));
        }
        return all.toString();
    }

    private static void amplitude(String name, int n, String text, int from, int to, String want) {
        CASES.is("12: " + name + ": " + text + " from " + from + " to " + to, amplitude(circuit(n, text), from, to), want);
    }

    // ---- promise 12

    private static void states() {
        for (int n = 1; n <= 4; n++) {
            GatesOnBoard x = circuit(n, "");
            int last = (1 << n) - 1;
            is("12: from and to the last state of " + n, x.amplitude(last, last, 0), 1);
            is("12: from the last to the first state of " + n, x.amplitude(last, 0, 0), 0);
            is("13: from and to the last state of " + n, x.chance(last, last, 0), 1);
            is("14: from the last state of " + n, x.spread(last), 1);
            for (int state : new int[] {LEAST, -2, -1, last + 1, last + 2, GREATEST}) {
                is("12: from no state " + state + " of " + n, x.amplitude(state, 0, 0), NO_NUMBER);
                is("12: to no state " + state + " of " + n, x.amplitude(0, state, 0), NO_NUMBER);
                is("12: from no state " + state + ", e", x.amplitude(state, 0, 4), NO_NUMBER);
                is("12: to no state " + state + ", e", x.amplitude(0, state, 4), NO_NUMBER);
                is("13: from no state " + state + " of " + n, x.chance(state, 0, 0), NO_NUMBER);
                is("13: to no state " + state + " of " + n, x.chance(0, state, 0), NO_NUMBER);
                is("13: from no state " + state + ", e", x.chance(state, 0, 2), NO_NUMBER);
                is("13: to no state " + state + ", e", x.chance(0, state, 2), NO_NUMBER);
                is("14: from no state " + state + " of " + n, x.spread(state), -1);
            }
        }
        GatesOnBoard x = circuit(2, "h0");
        for (int what : new int[] {LEAST, -1, 5, 6, GREATEST}) {
            is("12: no what " + what, x.amplitude(0, 0, what), NO_NUMBER);
        }
        for (int what : new int[] {LEAST, -1, 3, 4, GREATEST}) {
            is("13: no what " + what, x.chance(0, 0, what), NO_NUMBER);
        }
    }

    private static void amplitudes() {
        amplitude("no gates, the same state", 2, "", 3, 3, "1 0 0 0 0");
        amplitude("no gates, another state", 2, "", 3, 1, "0 0 0 0 0");
        String[] powers = {"1 0 0 0 0", "0 1 0 0 0", "0 0 1 0 0", "0 0 0 1 0", "-1 0 0 0 0", "0 -1 0 0 0", "0 0 -1 0 0",
            "0 0 0 -1 0"};
        for (int k = 0; k < 8; k++) {
            amplitude("u to the power of K where the line is 1", 2, "r" + k + ",1", 2, 2, powers[k]);
            amplitude("nothing where it is 0", 2, "r" + k + ",1", 1, 1, "1 0 0 0 0");
        }
        amplitude("u to the power of 8 is 1", 1, "r7,0;r1,0", 1, 1, "1 0 0 0 0");
        amplitude("u to the power of 14 is that of 6", 1, "r7,0;r7,0", 1, 1, "0 0 -1 0 0");
        amplitude("h, f + g, f", 1, "h0", 0, 0, "1 0 0 0 1");
        amplitude("h, f + g, g", 1, "h0", 1, 0, "1 0 0 0 1");
        amplitude("h, f - g, f", 1, "h0", 0, 1, "1 0 0 0 1");
        amplitude("h, f - g, g", 1, "h0", 1, 1, "-1 0 0 0 1");
        amplitude("h on another line", 2, "h1", 1, 3, "1 0 0 0 1");
        amplitude("h, unlike in the line alone", 2, "h1", 1, 2, "0 0 0 0 1");
        amplitude("R is u less u u u: (1 + u u) by R R is u by R", 1, "h0;r2,0;h0", 0, 0, "0 1 0 0 1");
        amplitude("(1 - u u) by R R is less u u u by R", 1, "h0;r2,0;h0", 0, 1, "0 0 0 -1 1");
        amplitude("(1 + u) by R R stays so", 1, "h0;r1,0;h0", 0, 0, "1 1 0 0 2");
        amplitude("(1 + u u u u) is 0", 1, "h0;r4,0;h0", 0, 0, "0 0 0 0 0");
        for (int line = 0; line < 4; line++) {
            amplitude("bit l is line l", 4, "x" + line, 0, 1 << line, "1 0 0 0 0");
            amplitude("x turns back, too", 4, "x" + line, 15, 15 - (1 << line), "1 0 0 0 0");
        }
        amplitude("u in the last state of four lines", 4, "r3,2", 15, 15, "0 0 0 1 0");
        amplitude("d in the last state of four lines", 4, "d3,1", 15, 15, "-1 0 0 0 0");
        amplitude("c where a is 0", 2, "c1,0", 1, 1, "1 0 0 0 0");
        amplitude("c where a is 1", 2, "c1,0", 2, 3, "1 0 0 0 0");
        amplitude("c where both are 1", 2, "c1,0", 3, 2, "1 0 0 0 0");
        amplitude("d where both are 1", 2, "d0,1", 3, 3, "-1 0 0 0 0");
        amplitude("d where one is 1", 2, "d0,1", 1, 1, "1 0 0 0 0");
        amplitude("d where the other one is 1", 2, "d0,1", 2, 2, "1 0 0 0 0");
        amplitude("w, unlike ones", 3, "w0,2", 1, 4, "1 0 0 0 0");
        amplitude("w, the other way round", 3, "w0,2", 4, 1, "1 0 0 0 0");
        amplitude("w, both 1", 3, "w0,2", 5, 5, "1 0 0 0 0");
        amplitude("w, both 0", 3, "w0,2", 2, 2, "1 0 0 0 0");
        amplitude("in order, h before c", 2, "h0;c0,1", 0, 3, "1 0 0 0 1");
        amplitude("in order, c before h", 2, "c0,1;h0", 0, 3, "0 0 0 0 1");
        amplitude("in order, x before r", 1, "x0;r3,0", 0, 1, "0 0 0 1 0");
        amplitude("in order, r before x", 1, "r3,0;x0", 0, 1, "1 0 0 0 0");
    }

    private static void normal() {
        String text = "h0;h1;r1,1;r5,0;c0,1;h0";
        amplitude("1 + u u is R u, but all have one e", 2, text, 0, 3, "1 0 1 0 2");
        amplitude("for this one e 2 is the least", 2, text, 0, 0, "0 0 0 -1 2");
        amplitude("0 has that e, too", 2, text, 0, 2, "0 0 0 0 2");
        amplitude("e 1 behind one h, an amplitude of 0", 2, "h0", 0, 2, "0 0 0 0 1");
        amplitude("e 0 at least", 1, "h0;h0", 1, 1, "1 0 0 0 0");
        amplitude("e 1 behind three h", 1, "h0;h0;h0", 1, 1, "-1 0 0 0 1");
        amplitude("e 0 behind 30 h", 2, Cases.many("h0", 30), 2, 2, "1 0 0 0 0");
        amplitude("e 0 in the last state of four lines", 4, "h3;h3", 15, 15, "1 0 0 0 0");
        amplitude("e 1 in the last state of four lines", 4, "h3;h3;h2", 15, 15, "-1 0 0 0 1");
        amplitude("e 4 on four lines", 4, "h0;h1;h2;h3", 15, 7, "-1 0 0 0 4");
        text = "r2,1;h1;r1,1;c0,1;r7,1;h1;r6,1";
        amplitude("another e from another state", 2, text, 1, 1, "1 0 0 0 1");
        amplitude("and none from this one", 2, text, 2, 2, "1 0 0 0 0");
        GatesOnBoard x = new GatesOnBoard();
        x.lines(1);
        for (int i = 0; i < 15; i++) {
            x.gate(1, 0, -1);
            x.gate(0, 0, 1);
        }
        CASES.is("12: 30 gates of h and r", amplitude(x, 0, 0), "-7 7 11 -2 8");
    }

    // ---- promises 13, 14

    private static String chance(int n, String text, int from, int to) {
        GatesOnBoard x = circuit(n, text);
        return x.chance(from, to, 0) + " " + x.chance(from, to, 1) + " " + x.chance(from, to, 2);
    }

    private static void chances() {
        CASES.is("13: sure", chance(2, "", 3, 3), "1 0 0");
        CASES.is("13: never", chance(2, "", 3, 0), "0 0 0");
        CASES.is("13: never, by the e of amplitude()", chance(2, "h0", 0, 2), "0 0 1");
        CASES.is("13: a half", chance(1, "h0", 1, 1), "1 0 1");
        CASES.is("13: q above 0: a b", chance(1, "h0;r1,0;h0", 0, 0), "2 1 2");
        CASES.is("13: q below 0: a b", chance(1, "h0;r1,0;h0", 0, 1), "2 -1 2");
        CASES.is("13: q by b c", chance(1, "h0;r1,0;h0;x0;r1,0", 1, 1), "2 -1 2");
        CASES.is("13: q by c d", chance(1, "h0;r1,0;h0;r2,0", 0, 1), "2 -1 2");
        CASES.is("13: q by d a", chance(1, "h0;r1,0;h0;r3,0", 0, 1), "2 -1 2");
        CASES.is("13: q by a d, above 0", chance(1, "h0;r7,0;h0", 0, 0), "2 1 2");
        CASES.is("13: a turn is not seen", chance(2, "r5,1", 2, 2), "1 0 0");
        GatesOnBoard x = new GatesOnBoard();
        x.lines(1);
        for (int i = 0; i < 15; i++) {
            x.gate(1, 0, -1);
            x.gate(0, 0, 1);
        }
        CASES.begin("13: 30 gates of h and r");
        CASES.due("p", x.chance(0, 0, 0), 223);
        CASES.due("q", x.chance(0, 0, 1), -8);
        CASES.due("e", x.chance(0, 0, 2), 8);
        CASES.due("p of the other state", x.chance(0, 1, 0), 256 - 223);
        CASES.due("q of the other state", x.chance(0, 1, 1), 8);
        is("14: no gates: 1", circuit(4, "").spread(9), 1);
        is("14: 2", circuit(4, "h2").spread(9), 2);
        is("14: all 16", circuit(4, "h0;h1;h2;h3").spread(15), 16);
        is("14: all 2 of one line", circuit(1, "h0").spread(1), 2);
        is("14: what falls out counts not", circuit(1, "h0;r4,0;h0").spread(0), 1);
        is("14: from one state more than from another", circuit(2, "h1;r1,1;c0,1;r7,1;h1;r2,1").spread(1), 2);
        is("14: a part b, c or d alone is not 0", circuit(1, "r3,0").spread(1), 1);
        is("14: with b alone", circuit(1, "r1,0").spread(1), 1);
        is("14: with c alone", circuit(1, "r2,0").spread(1), 1);
    }

    // ---- promises 15, 16

    private static void step(String name, int n, String text, int fell, String left) {
        CASES.begin("15: " + name + ": " + text);
        GatesOnBoard x = circuit(n, text);
        CASES.due("shorter", x.shorter(), fell);
        CASES.due("left", Cases.told(x), left);
    }

    private static void shorter() {
        step("no gates", 2, "", 0, "");
        step("one gate", 2, "h0", 0, "h0");
        step("r with K 0 alone", 1, "r0,0", 1, "");
        step("the lowest r with K 0", 2, "h0;r0,1;r0,0", 1, "h0;r0,0");
        step("r with K 0 before all pairs", 2, "h0;h0;r0,1", 1, "h0;h0");
        step("K 1 does not fall", 1, "r1,0", 0, "r1,0");
        step("both K together", 1, "r3,0;r4,0", 1, "r7,0");
        step("both K together are 8: it stays with K 0", 1, "r5,0;r3,0", 1, "r0,0");
        step("both K together are 14", 1, "r7,0;r7,0", 1, "r6,0");
        step("i stays, j falls", 2, "r2,0;h1;r3,0", 1, "r5,0;h1");
        step("r on another line", 2, "r3,0;r4,1", 0, "r3,0;r4,1");
        step("h, h", 1, "h0;h0", 2, "");
        step("h on another line", 2, "h0;h1", 0, "h0;h1");
        step("x, x", 1, "x0;x0", 2, "");
        step("x on another line", 2, "x0;x1", 0, "x0;x1");
        step("h, x: of one kind alone", 1, "h0;x0", 0, "h0;x0");
        step("c told alike", 2, "c0,1;c0,1", 2, "");
        step("c not told alike", 2, "c0,1;c1,0", 0, "c0,1;c1,0");
        step("c with another b", 3, "c0,1;c0,2", 0, "c0,1;c0,2");
        step("c with another a", 3, "c0,1;c2,1", 0, "c0,1;c2,1");
        step("d told alike", 2, "d0,1;d0,1", 2, "");
        step("d the other way round", 2, "d0,1;d1,0", 2, "");
        step("d with one other line", 3, "d0,1;d1,2", 0, "d0,1;d1,2");
        step("w told alike", 2, "w1,0;w1,0", 2, "");
        step("w the other way round", 2, "w0,1;w1,0", 2, "");
        step("w with one other line", 3, "w0,1;w0,2", 0, "w0,1;w0,2");
        step("c, d on the same lines: of one kind alone", 2, "c0,1;d0,1", 0, "c0,1;d0,1");
        step("d, w on the same lines: of one kind alone", 2, "d0,1;w0,1", 0, "d0,1;w0,1");
        step("past one that commutes", 2, "x1;c0,1;x1", 2, "c0,1");
        step("not past one that does not", 2, "x0;c0,1;x0", 0, "x0;c0,1;x0");
        step("not past the second between", 2, "x1;c0,1;r1,1;x1", 0, "x1;c0,1;r1,1;x1");
        step("not past the first between", 2, "x1;r1,1;c0,1;x1", 0, "x1;r1,1;c0,1;x1");
        step("past all between", 3, "r1,0;c0,1;d0,2;h1;r1,0", 1, "r2,0;c0,1;d0,2;h1");
        step("w past d", 2, "w0,1;d1,0;w1,0", 2, "d1,0");
        step("x not past r 4: the sign is seen", 1, "x0;r4,0;x0", 0, "x0;r4,0;x0");
        step("the least i", 2, "x1;h0;h0;x1", 2, "h0;h0");
        step("of these the least j", 2, "r1,0;h1;r2,0;r3,0", 1, "r3,0;h1;r3,0");
        step("the least i that has one", 2, "x0;h0;h1;x0;h1", 2, "x0;h0;x0");
        step("numbers close up", 2, "x0;h1;r3,1;h0;h0;c0,1", 2, "x0;h1;r3,1;c0,1");
        CASES.begin("15: numbers close up: what is ahead goes by the new ones");
        GatesOnBoard x = circuit(2, "h0;h0;c0,1;x1");
        x.shorter();
        CASES.due("ahead of x", x.ahead(1, 0), 1);
        CASES.due("its depth", x.gateIs(1, 4), 2);
        CASES.due("the last number", x.gateIs(2, 0), -1);
        step("30 gates, the last pair", 4, Cases.many("c0,1;h1", 9) + ";" + Cases.many("h2;x2", 5) + ";x3;x3", 2,
            Cases.many("c0,1;h1", 9) + ";" + Cases.many("h2;x2", 5));
    }

    private static void shortest(String name, int n, String text, int fell, String left) {
        CASES.begin("16: " + name + ": " + text);
        GatesOnBoard x = circuit(n, text);
        CASES.due("would leave", x.circuitIs(5), x.count(0) - fell);
        CASES.due("shortest", x.shortest(), fell);
        CASES.due("left", Cases.told(x), left);
        CASES.due("once more", x.shortest(), 0);
        CASES.due("a step", x.shorter(), 0);
    }

    private static void allShorter() {
        shortest("no gates", 2, "", 0, "");
        shortest("nothing falls", 2, "h0;c0,1", 0, "h0;c0,1");
        shortest("all of 30", 2, Cases.many("h0", 30), 30, "");
        shortest("one of 29 is left", 2, Cases.many("x1", 29), 28, "x1");
        shortest("all 30 inside out", 2, Cases.many("h0;x0", 7) + ";h0;h0;" + Cases.many("x0;h0", 7), 30, "");
        shortest("24 r to 0", 1, Cases.many("r1,0", 24), 24, "");
        shortest("23 r to 7", 1, Cases.many("r1,0", 23), 22, "r7,0");
        shortest("r to K 0, which falls, too", 2, "h0;r3,1;r5,1;h0", 4, "");
        shortest("what falls lets others fall", 2, "h0;x1;c0,1;r7,0;r1,0;c0,1;x1;h0;d0,1", 8, "d0,1");
    }

    // ---- promise 17

    private static void same(String name, int n, String kept, String text, String want) {
        CASES.begin("17: " + name + ": " + text + " against " + kept);
        GatesOnBoard x = circuit(n, kept);
        x.keep();
        Cases.circuit(x, text);
        CASES.due("same", x.same(0) + " " + x.same(1) + " " + x.same(2), want);
    }

    private static void same() {
        for (int what = 0; what < 3; what++) {
            is("17: nothing was kept, what " + what, circuit(2, "h0").same(what), -3);
            GatesOnBoard x = circuit(2, "h0");
            x.keep();
            x.lines(3);
            is("17: more lines than kept, what " + what, x.same(what), -3);
            x.lines(1);
            is("17: fewer lines than kept, what " + what, x.same(what), -3);
            x.lines(2);
            Cases.circuit(x, "h0");
            is("17: as many lines again, what " + what, x.same(what), what == 0 ? 1 : 0);
        }
        for (int what : new int[] {LEAST, -1, 3, 4, GREATEST}) {
            GatesOnBoard x = circuit(2, "h0");
            is("17: no what " + what + ": NONE comes first", x.same(what), -1);
            x.keep();
            is("17: no what " + what, x.same(what), -1);
        }
        same("no gates", 2, "", "", "1 0 0");
        same("no gates on one line", 1, "", "", "1 0 0");
        same("no gates on four lines", 4, "", "", "1 0 0");
        same("another circuit that does the same", 2, "w0,1", "c0,1;c1,0;c0,1", "1 0 0");
        same("h x h is r 4", 1, "h0;x0;h0", "r4,0", "1 0 0");
        same("alike from state 0 alone", 2, "", "d0,1", "0 -2 -2");
        String last = "c1,2;r7,2;c0,2;r1,2;c1,2;r7,2;c0,2;r1,1;r1,2;c0,1;r1,0;r7,1;c0,1";
        for (int state = 0; state < 8; state++) {
            is("17: the last state of eight is turned alone, " + state, circuit(3, last).amplitude(state, state, 0),
                state == 7 ? -1 : 1);
        }
        same("alike from all but the last state", 3, "", last, "0 -2 -2");
        same("by another e", 1, "", "h0", "0 -2 -2");
        same("unlike turns from two states", 1, "", "r1,0", "0 -2 -2");
        for (int k = 0; k < 8; k++) {
            String turned = "r" + k + ",0;x0;r" + k + ",0;x0";
            same("turned by " + k, 1, "", turned, k == 0 ? "1 0 0" : "0 " + k + " -2");
            same("kept, turned by " + k, 1, turned, "", k == 0 ? "1 0 0" : "0 " + (8 - k) + " -2");
            same("turned by 3 and " + k, 1, "h0;r3,0;x0;r3,0;x0", "h0;" + turned,
                k == 3 ? "1 0 0" : "0 " + (k + 5) % 8 + " -2");
        }
        same("exchanged and turned is neither", 2, "", "w0,1;r2,0;x0;r2,0;x0", "0 -2 -2");
    }

    /** Exchanges by gates w that bring line l to line row[l]. */
    private static String exchange(int[] row) {
        StringBuilder text = new StringBuilder();
        int[] at = {0, 1, 2, 3};
        for (int l = 0; l < row.length; l++) {
            int from = at[l];
            if (from == row[l]) {
                continue;
            }
            text.append(text.length() > 0 ? ";w" : "w").append(from).append(',').append(row[l]);
            for (int other = 0; other < row.length; other++) {
                at[other] = at[other] == row[l] ? from : at[other];
            }
            at[l] = row[l];
        }
        return text.toString();
    }

    private static void orders() {
        for (int n = 1; n <= 4; n++) {
            int number = 0;
            for (int code = 0; code < 256; code++) {
                int[] row = new int[n];
                int bits = 0;
                int rest = code;
                for (int l = n - 1; l >= 0; l--) {
                    row[l] = rest % 4;
                    bits |= 1 << row[l];
                    rest /= 4;
                }
                if (rest > 0 || bits != (1 << n) - 1) {
                    continue;
                }
                String text = exchange(row);
                String want = number == 0 ? "1 0 0" : "0 -2 " + number;
                same("order " + number + " of " + n, n, "", text, want);
                same("what comes out is exchanged, order " + number + " of " + n, n, "h0;r1,0",
                    "h0;r1,0" + (text.isEmpty() ? "" : ";" + text), want);
                number++;
            }
            is("17: orders of " + n, number, n == 4 ? 24 : n == 3 ? 6 : n);
        }
        same("what goes in is not exchanged", 2, "h0;r1,0", "w0,1;h0;r1,0", "0 -2 -2");
        same("what goes in and what comes out", 2, "h0;r1,0", "w0,1;h1;r1,1", "0 -2 1");
    }

    public static void main(String[] args) {
        states();
        amplitudes();
        normal();
        chances();
        shorter();
        allShorter();
        same();
        orders();
        CASES.end();
    }
}
