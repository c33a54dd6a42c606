/** Promises 26 to 28, 31, 32, 34: times, what is kept, counts: one case for each edge that the document names. */
public final class TimeEdgeTests {
    private static final Cases CASES = new Cases();
    private static final String ROW_OF_3 = "3;0-1;1-2";
    private static final int LEAST = Integer.MIN_VALUE;
    private static final int GREATEST = Integer.MAX_VALUE;

    private TimeEdgeTests() {
    }

    private static void is(String name, long got, long want) {
        CASES.is(name, got, want);
    }

    private static void is(String name, boolean got, boolean want) {
        CASES.is(name, got, want);
    }

    /** The times of all kinds, seen by a gate of each. */
    private static String times(GatesOnBoard x) {
        StringBuilder all = new StringBuilder();
        x.lines(2);
        for (int kind = 0; kind < 6; kind++) {
            x.circuit(0);
            x.gate(kind, 0, kind == 1 || kind == 2 ? -1 : 1);
            all.append(kind > 0 ? " " : "").append(x.lasts(0, 0));
        }
        return all.toString();
    }

    // ---- promise 26

    private static void spending() {
        CASES.is("26: at first", times(new GatesOnBoard()), "1 1 1 3 3 6");
        for (int kind = 0; kind < 6; kind++) {
            for (int time : new int[] {1, 2, 19, 20}) {
                GatesOnBoard x = new GatesOnBoard();
                is("26: kind " + kind + ", time " + time, x.spend(kind, time), true);
                StringBuilder want = new StringBuilder("1 1 1 3 3 6");
                want.replace(2 * kind, 2 * kind + 1, "" + time);
                CASES.is("26: kind " + kind + " alone has time " + time, times(x), want.toString());
            }
            for (int time : new int[] {LEAST, -1, 0, 21, 22, GREATEST}) {
                GatesOnBoard x = new GatesOnBoard();
                is("26: kind " + kind + ", no time " + time, x.spend(kind, time), false);
                CASES.is("26: refused, the times stay, " + kind + " " + time, times(x), "1 1 1 3 3 6");
            }
        }
        for (int kind : new int[] {LEAST, -1, 6, 7, GREATEST}) {
            GatesOnBoard x = new GatesOnBoard();
            is("26: no kind " + kind, x.spend(kind, 5), false);
            CASES.is("26: no kind, the times stay", times(x), "1 1 1 3 3 6");
        }
        GatesOnBoard x = new GatesOnBoard();
        x.spend(5, 9);
        x.keep();
        x.spend(5, 10);
        x.undo();
        CASES.is("26: undone, the times stay", times(x), "1 1 1 3 3 10");
        x = new GatesOnBoard();
        x.spend(1, 20);
        x.lines(4);
        Cases.board(x, "5");
        Cases.circuit(x, "h0");
        x.seed(7);
        x.draws(3);
        x.shortest();
        x.keep();
        CASES.is("26: nothing but spend changes them", times(x), "1 20 1 3 3 6");
    }

    // ---- promise 27

    private static void lasts(String name, int n, String circuit, int strict, int loose) {
        CASES.begin("27: " + name + ": " + circuit);
        GatesOnBoard x = Cases.with(n, ROW_OF_3, circuit);
        CASES.due("strict", x.lasts(0, 0), strict);
        CASES.due("loose", x.lasts(1, 0), loose);
    }

    private static void lasting() {
        lasts("no gates: 0", 2, "", 0, 0);
        lasts("one gate begins at 0", 2, "w0,1", 6, 6);
        lasts("side by side", 2, "h0;h1", 1, 1);
        lasts("till the last one ends, not that of the highest number", 3, "w0,1;h2", 6, 6);
        lasts("when all ahead have ended", 3, "w0,1;h2;c1,2", 9, 9);
        lasts("commuting ones begin together", 1, "r1,0;r2,0;r3,0", 3, 1);
        lasts("strict behind, loose beside", 3, "c0,1;c0,2", 6, 3);
        lasts("30 gates", 2, Cases.many("h0;x0", 15), 30, 30);
        lasts("behind one that is no neighbour", 2, "r1,0;h0;r1,0;r1,0", 4, 3);
        GatesOnBoard x = Cases.with(2, ROW_OF_3, "");
        for (int kind = 0; kind < 6; kind++) {
            x.spend(kind, 20);
        }
        Cases.circuit(x, Cases.many("h0;x0", 15));
        is("27: 30 gates of time 20", x.lasts(0, 0), 600);
        is("27: 30 gates of time 20, loose", x.lasts(1, 0), 600);
        is("27: 30 gates of time 20, routed", x.lasts(2, 0), 600);
        x.circuit(0);
        is("27: no gates, routed", x.lasts(2, 0), 0);
        is("27: no gates, routed, loose", x.lasts(2, 15), 0);
        x = Cases.with(3, ROW_OF_3, "c0,2;c0,1;c1,2");
        is("27: routed", x.lasts(2, 0), 21);
        is("27: routed, loose, ahead strict", x.lasts(2, 10), 15);
        x.spend(5, 1);
        is("27: swaps as kind 5", x.lasts(2, 0), 11);
        x = Cases.with(3, ROW_OF_3, "h0;c0,2;x1");
        is("27: routed, by places: x1 and h0 before the swap", x.lasts(2, 0), 10);
        x = Cases.with(2, "3;0-1;1-2", "r1,0;r2,0");
        is("27: routed, loose: ahead is strict", x.lasts(2, 10), 2);
    }

    private static void lastsRefused() {
        for (int what : new int[] {LEAST, -1, 3, 4, GREATEST}) {
            is("27: no what " + what, Cases.with(2, "2;0-1", "h0").lasts(what, 0), -1);
            is("27: no what " + what + ", more lines than places: NONE comes first",
                Cases.with(3, "2;0-1", "h0").lasts(what, 0), -1);
        }
        for (int look : new int[] {LEAST, -1, 6, 7, 9, 16, 17, GREATEST}) {
            GatesOnBoard x = Cases.with(3, ROW_OF_3, "c0,1;c0,2");
            is("27: routed, no look " + look, x.lasts(2, look), -1);
            is("27: strict, look " + look + " is not looked at", x.lasts(0, look), 6);
            is("27: loose, look " + look + " is not looked at", x.lasts(1, look), 3);
            Cases.board(x, "2;0-1");
            is("27: no look " + look + ", more lines than places: NONE comes first", x.lasts(2, look), -1);
        }
        GatesOnBoard x = Cases.with(3, "3;0-1", "c0,1;c0,2");
        is("27: routed, given up", x.lasts(2, 5), -6);
        is("27: routed, given up, loose", x.lasts(2, 10), -6);
        is("27: strict, though it is given up", x.lasts(0, 5), 6);
        is("27: loose, though it is given up", x.lasts(1, 5), 3);
        is("27: given up, no look: NONE comes first", x.lasts(2, 6), -1);
        for (int m = 2; m <= 3; m++) {
            x = Cases.with(m + 1, m + ";0-1", "c0,1;c0,2");
            is("27: routed, more lines than places, " + m, x.lasts(2, 0), -3);
            is("27: routed, more lines than places, loose, " + m, x.lasts(2, 10), -3);
            is("27: strict, more lines than places, " + m, x.lasts(0, 0), 6);
            is("27: loose, more lines than places, " + m, x.lasts(1, 0), 3);
        }
    }

    // ---- promise 28

    private static void urgent(String name, int n, String circuit, int strict, int loose) {
        CASES.begin("28: " + name + ": " + circuit);
        GatesOnBoard x = Cases.with(n, ROW_OF_3, circuit);
        CASES.due("strict", x.urgent(0), strict);
        CASES.due("loose", x.urgent(1), loose);
    }

    private static void urgents() {
        urgent("no gates", 2, "", 0, 0);
        urgent("one gate", 2, "h1", 1, 1);
        urgent("two alike side by side", 2, "h0;h1", 3, 3);
        urgent("the longer one alone", 3, "h0;c1,2", 2, 2);
        urgent("1 to spare is not urgent", 3, "h0;h1;h1;c1,2;h0", 14, 14);
        urgent("as long by another way", 3, "h0;h0;h0;c1,2;x1", 24, 24);
        urgent("all 30", 2, Cases.many("h0;x0", 15), (1 << 30) - 1, (1 << 30) - 1);
        urgent("29 of 30", 2, Cases.many("h0", 29) + ";h1", (1 << 29) - 1, (1 << 30) - 1);
        urgent("behind it only when it has ended, not a neighbour alone", 3, "h0;c0,1;c1,2;x2", 15, 7);
        urgent("one that all behind can wait for is not", 3, "h2;w0,1;c1,2", 6, 6);
        GatesOnBoard x = Cases.with(2, "2;0-1", Cases.many("h0;x0", 15));
        x.urgent(0);
        for (int size = 29; size >= 0; size--) {
            String text = Cases.many("h0;x0", 15).substring(0, Math.max(0, 3 * size - 1));
            Cases.circuit(x, text);
            is("28: behind the last gate none is urgent, " + size + " gates", x.urgent(0), (1 << size) - 1);
        }
        x = Cases.with(3, ROW_OF_3, "h0;c1,2");
        x.spend(1, 3);
        is("28: as long by spend()", x.urgent(0), 3);
        x.spend(1, 4);
        is("28: longer by spend()", x.urgent(0), 1);
        Cases.board(x, "2;0-1");
        is("28: more lines than places all the same", x.urgent(0), 1);
        for (int what : new int[] {LEAST, -1, 2, 3, GREATEST}) {
            is("28: no what " + what, x.urgent(what), -1);
        }
    }

    // ---- promises 31, 32

    private static void keeping() {
        is("31: no gates", new GatesOnBoard().keep(), 0);
        is("31: 30 gates", Cases.with(2, "2", Cases.many("h0", 30)).keep(), 30);
        GatesOnBoard x = new GatesOnBoard();
        is("32: nothing was kept", x.undo(), false);
        x.keep();
        is("32: something was kept", x.undo(), true);
        is("32: and once more", x.undo(), true);
        x = Cases.with(3, "5;0-1;1-2", "h0;c0,2");
        x.place(0, 4);
        x.seed(77);
        x.keep();
        x.lines(1);
        is("32: undone, lines", undone(x).count(1), 3);
        Cases.circuit(x, "x0");
        CASES.is("32: undone, circuit", Cases.told(undone(x)), "h0;c0,2");
        Cases.board(x, "2;0-1");
        is("32: undone, places", undone(x).boardIs(0), 5);
        Cases.board(x, "5;2-3");
        is("32: undone, edges", undone(x).boardIs(1), 2);
        Cases.board(x, "5;2-3;3-4");
        is("32: undone, the edges that were", undone(x).boardIs(10) * 10 + x.boardIs(20), 1);
        Cases.board(x, "5;2-3;3-4");
        is("32: undone, far", undone(x).far(0, 2), 2);
        x.place(0, 1);
        is("32: undone, layout", undone(x).layout(0), 4);
        x.place(1, 2);
        is("32: undone, layout by places", undone(x).layout(14) * 10 + x.layout(12), 2);
        x.draws(5);
        is("32: undone, X", undone(x).count(3), 77);
        x.gate(1, 0, -1);
        CASES.is("32: undone, a gate more", Cases.told(undone(x)), "h0;c0,2");
        x.feed(0, 0, 0, 0, 0);
        x.undo();
        is("32: the tape is not", x.count(2), 20);
        x.check(0);
        x.spend(1, 20);
        x.undo();
        is("32: the times are not", x.lasts(0, 0), 23);
        Cases.circuit(x, "x2");
        is("31: kept anew: how many", x.keep(), 1);
        Cases.circuit(x, "h0;h1");
        CASES.is("32: as they were kept last", Cases.told(undone(x)), "x2");
        x.gate(1, 0, -1);
        x.undo();
        x.gate(2, 0, -1);
        CASES.is("32: what is kept is not changed by what is done then", Cases.told(undone(x)), "x2");
        x.seed(500);
        x.keep();
        x.draws(2);
        String first = Cases.told(x);
        x.undo();
        x.draws(2);
        CASES.is("32: drawn anew, the same", Cases.told(x), first);
        x = Cases.with(3, "2;0-1", "h2");
        x.keep();
        Cases.board(x, "5");
        is("32: undone, more lines than places", undone(x).layout(0), -3);
        is("31: more lines than places are kept", x.keep(), 1);
    }

    private static GatesOnBoard undone(GatesOnBoard x) {
        x.undo();
        return x;
    }

    // ---- promise 34

    private static void counts() {
        GatesOnBoard x = Cases.with(4, "5", Cases.many("h3", 30));
        x.seed(65535);
        is("34: 30 gates", x.count(0), 30);
        is("34: four lines", x.count(1), 4);
        is("34: an empty tape", x.count(2), 0);
        for (int size = 20; size <= 140; size += 20) {
            x.feed(0, 0, 0, 0, 0);
            is("34: tape", x.count(2), size);
        }
        x.feed(0, 0, 0, 0, 0);
        is("34: a full tape", x.count(2), 140);
        is("34: X", x.count(3), 65535);
        for (int what : new int[] {LEAST, -2, -1, 4, 5, GREATEST}) {
            is("34: NONE for others, " + what, x.count(what), -1);
        }
        x.lines(1);
        is("34: one line", x.count(1), 1);
        is("34: no gates", x.count(0), 0);
        x.seed(0);
        is("34: X 0", x.count(3), 0);
    }

    public static void main(String[] args) {
        spending();
        lasting();
        lastsRefused();
        urgents();
        keeping();
        counts();
        CASES.end();
    }
}
