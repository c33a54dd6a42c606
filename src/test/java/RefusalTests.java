import java.util.ArrayList;
import java.util.List;

/**
 * "A call that is refused changes nothing but the tape, where it is told": of two objects made alike one
 * is asked what it refuses, and then both must answer alike whatever can be asked.
 */
public final class RefusalTests {
    private static final Cases CASES = new Cases();
    private static final String TEXT = "h0;c0,1;d1,0;r3,1;x1";
    private static final String PIECE = "c0,1;d1,0;r3,1;w0,1;";
    private static final int LEAST = Integer.MIN_VALUE;
    private static final int GREATEST = Integer.MAX_VALUE;

    private RefusalTests() {
    }

    private interface Making {
        void on(GatesOnBoard x);
    }

    private interface Call {
        long on(GatesOnBoard x);
    }

    // ---- objects in all states that calls are refused in

    /** Three lines on five places, a tape of a circuit, another state kept. */
    private static void rich(GatesOnBoard x) {
        x.lines(3);
        Cases.board(x, "4;0-1;1-2;2-0");
        Cases.circuit(x, "c0,1;h2");
        x.place(0, 3);
        x.seed(7);
        x.keep();
        Cases.board(x, "5;0-1;1-2;2-3;3-4");
        Cases.circuit(x, "h0;c0,2;r3,1;x2;d1,0;w0,1");
        x.place(0, 4);
        x.seed(77);
        for (int kind = 0; kind < 6; kind++) {
            x.spend(kind, 2 + 3 * kind);
        }
        Cases.type(x, TEXT);
    }

    private static void unkept(GatesOnBoard x) {
        x.lines(2);
        Cases.board(x, "4;0-1;1-2;2-3");
        Cases.circuit(x, "h0;c0,1");
        x.place(0, 3);
        x.seed(9);
        Cases.type(x, TEXT);
    }

    private static void keptOfOtherLines(GatesOnBoard x) {
        x.keep();
        x.lines(3);
        Cases.circuit(x, "h0;c0,2");
        Cases.type(x, TEXT);
    }

    private static void crowded(GatesOnBoard x) {
        x.keep();
        x.lines(4);
        Cases.board(x, "3;0-1;1-2");
        Cases.circuit(x, "c0,3;h2;c1,2");
        x.seed(11);
        Cases.type(x, TEXT);
    }

    private static void unroutable(GatesOnBoard x) {
        x.lines(3);
        x.keep();
        Cases.board(x, "4;0-1;1-3");
        Cases.circuit(x, "h0;c0,1;c0,2");
        x.place(1, 3);
        Cases.type(x, TEXT);
    }

    private static void noneGood(GatesOnBoard x) {
        x.lines(3);
        Cases.board(x, "3;0-1;1-2");
        Cases.circuit(x, "c0,1;c1,2;c2,0");
        x.keep();
        Cases.type(x, TEXT);
    }

    private static void full(GatesOnBoard x) {
        x.lines(2);
        Cases.circuit(x, "h1;d0,1");
        x.keep();
        Cases.circuit(x, Cases.many("h1", 14) + ";" + Cases.many("h0;x1", 8));
        x.seed(31);
        Cases.type(x, TEXT);
    }

    private static void fullTape(GatesOnBoard x) {
        x.lines(2);
        Cases.circuit(x, "h0;w0,1");
        x.keep();
        Cases.circuit(x, "x0");
        for (int i = 0; i < 7; i++) {
            Cases.type(x, PIECE);
        }
    }

    // ---- whatever can be asked, in 512 calls

    private static void put(List<Long> answers, long... some) {
        for (long answer : some) {
            answers.add(answer);
        }
    }

    private static void gates(GatesOnBoard x, List<Long> answers) {
        int size = x.count(0);
        for (int g = 0; g < size; g++) {
            put(answers, x.gateIs(g, 0), x.gateIs(g, 1), x.gateIs(g, 2), x.gateIs(g, 3));
        }
    }

    private static void state(GatesOnBoard x, List<Long> answers) {
        put(answers, x.count(0), x.count(1), x.count(2), x.count(3), x.same(0), x.same(1), x.same(2));
        gates(x, answers);
        for (int what = 0; what < 30; what++) {
            put(answers, x.boardIs(what));
        }
        for (int what = 0; what < 15; what++) {
            put(answers, x.layout(what));
        }
        put(answers, x.layout(21), x.far(0, 1), x.far(0, 2), x.far(1, 3), x.lasts(0, 0), x.lasts(1, 0), x.lasts(2, 0));
    }

    private static void times(GatesOnBoard x, List<Long> answers) {
        x.lines(2);
        for (int kind = 0; kind < 6; kind++) {
            x.circuit(0);
            x.gate(kind, 0, kind == 1 || kind == 2 ? -1 : 1);
            put(answers, x.lasts(0, 0));
        }
    }

    private static List<Long> answers(GatesOnBoard x) {
        List<Long> answers = new ArrayList<>();
        state(x, answers);
        put(answers, x.circuit(x.count(2) == 140 ? 119 : 20), x.count(2));
        gates(x, answers);
        put(answers, x.undo() ? 1 : 0);
        state(x, answers);
        put(answers, x.circuit(0), x.draws(1));
        gates(x, answers);
        times(x, answers);
        return answers;
    }

    private static void compare(GatesOnBoard asked, GatesOnBoard other) {
        List<Long> got = answers(asked);
        List<Long> want = answers(other);
        CASES.due("answers", got.size(), want.size());
        for (int i = 0; i < Math.min(got.size(), want.size()); i++) {
            CASES.due("answer " + i, got.get(i), want.get(i));
        }
    }

    private static void refused(String name, Making making, Call call, long want) {
        CASES.begin("refused: " + name);
        GatesOnBoard asked = new GatesOnBoard();
        GatesOnBoard other = new GatesOnBoard();
        making.on(asked);
        making.on(other);
        CASES.due("it", call.on(asked), want);
        compare(asked, other);
    }

    /** The tape is empty behind it, all else stays. */
    private static void fault(String name, Making making, String text, boolean isBoard, long want) {
        CASES.begin("fault: " + name + ": " + text);
        GatesOnBoard asked = new GatesOnBoard();
        GatesOnBoard other = new GatesOnBoard();
        making.on(asked);
        making.on(other);
        asked.check(0);
        other.check(0);
        CASES.due("it", isBoard ? Cases.board(asked, text) : Cases.circuit(asked, text), want);
        CASES.due("tape", asked.count(2), 0);
        compare(asked, other);
    }

    // ---- all that can be refused

    private static long bit(boolean isSo) {
        return isSo ? 1 : 0;
    }

    private static void refusedTapes() {
        refused("2: feed beyond 140", RefusalTests::fullTape, x -> x.feed(1, 2, 3, 4, 5), -1);
        for (int n : new int[] {LEAST, -1, 21, 120, 121, 140, GREATEST}) {
            refused("4: circuit of " + n + " bytes of 20", RefusalTests::rich, x -> x.circuit(n), -1);
            refused("5: board of " + n + " bytes of 20", RefusalTests::rich, x -> x.board(n), -1);
            refused("33: check of " + n + " bytes of 20", RefusalTests::rich, x -> x.check(n), -2);
        }
        refused("5: board of 0 bytes", RefusalTests::rich, x -> x.board(0), -1);
        for (int n : new int[] {121, 140, 141}) {
            refused("4: circuit of " + n + " bytes of 140", RefusalTests::fullTape, x -> x.circuit(n), -1);
        }
        for (int n : new int[] {0, 61, 140, 141}) {
            refused("5: board of " + n + " bytes of 140", RefusalTests::fullTape, x -> x.board(n), -1);
        }
        for (int n : new int[] {-1, 31, 140, 141}) {
            refused("33: check of " + n + " bytes of 140", RefusalTests::fullTape, x -> x.check(n), -2);
        }
    }

    private static void faults() {
        fault("4: what can't stand there", RefusalTests::rich, "x0;x1;q", false, -1006);
        fault("4: the end", RefusalTests::rich, "x0;x1;", false, -1006);
        fault("4: no such line", RefusalTests::rich, "x0;x1;x3", false, -3007);
        fault("4: no such K", RefusalTests::rich, "x0;x1;r8,0", false, -3007);
        fault("4: a 31st gate", RefusalTests::rich, Cases.many("h0", 31), false, -4090);
        fault("4: a line twice", RefusalTests::rich, "x0;x1;c2,2", false, -6009);
        fault("4: where there are 30", RefusalTests::full, "x0;x2", false, -3004);
        fault("4: on more lines than places", RefusalTests::crowded, "x0;x4", false, -3004);
        fault("5: what can't stand there", RefusalTests::rich, "3;0-2;0.1", true, -1007);
        fault("5: the end", RefusalTests::rich, "3;0-2;", true, -1006);
        fault("5: no such m", RefusalTests::rich, "6;0-2", true, -3000);
        fault("5: no such place", RefusalTests::rich, "3;0-2;0-3", true, -3008);
        fault("5: an 11th edge", RefusalTests::rich, "5;0-1;0-2;0-3;0-4;1-2;1-3;1-4;2-3;2-4;3-4;0-1", true, -4042);
        fault("5: a place twice", RefusalTests::rich, "3;0-2;1-1", true, -6008);
        fault("5: told", RefusalTests::rich, "3;0-2;2-0", true, -6008);
        fault("5: on more lines than places", RefusalTests::crowded, "5;0-1;0-5", true, -3008);
    }

    private static void refusedGates() {
        for (int n : new int[] {LEAST, -1, 0, 5, GREATEST}) {
            refused("3: " + n + " lines", RefusalTests::rich, x -> bit(x.lines(n)), 0);
        }
        int[][] none = {{-1, 0, 1}, {6, 0, 1}, {0, 0, -1}, {0, 0, 8}, {0, 3, 0}, {0, -1, 0}, {1, 0, 0}, {1, 3, -1},
            {2, 0, 1}, {2, -1, -1}, {3, 0, 0}, {3, 0, 3}, {3, 0, -1}, {4, 3, 0}, {5, -1, 1}, {5, 2, 2}};
        for (int[] g : none) {
            String told = g[0] + " " + g[1] + " " + g[2];
            refused("6: gate " + told, RefusalTests::rich, x -> x.gate(g[0], g[1], g[2]), -1);
            refused("6: gate " + told + ", there are 30", RefusalTests::full, x -> x.gate(g[0], g[1], g[2]), -1);
        }
        refused("6: a 31st gate", RefusalTests::full, x -> x.gate(1, 0, -1), -3);
        refused("6: a 31st gate of two lines", RefusalTests::full, x -> x.gate(3, 1, 0), -3);
        for (int m : new int[] {LEAST, -1, 0, 11, GREATEST}) {
            refused("7: draws " + m, RefusalTests::rich, x -> x.draws(m), -1);
            refused("7: draws " + m + ", there are 30", RefusalTests::full, x -> x.draws(m), -1);
        }
        refused("7: draws beyond 30", RefusalTests::full, x -> x.draws(1), -3);
        refused("7: ten draws beyond 30", RefusalTests::full, x -> x.draws(10), -3);
        for (int seed : new int[] {LEAST, -1, 65536, GREATEST}) {
            refused("30: seed " + seed, RefusalTests::rich, x -> bit(x.seed(seed)), 0);
        }
        for (int[] s : new int[][] {{-1, 1}, {6, 1}, {0, 0}, {5, 21}, {3, -1}, {LEAST, 5}, {2, GREATEST}}) {
            refused("26: spend " + s[0] + " " + s[1], RefusalTests::rich, x -> bit(x.spend(s[0], s[1])), 0);
        }
        for (int[] p : new int[][] {{-1, 0}, {3, 0}, {0, -1}, {0, 5}, {LEAST, 0}, {0, GREATEST}}) {
            refused("8: place " + p[0] + " " + p[1], RefusalTests::rich, x -> bit(x.place(p[0], p[1])), 0);
        }
        refused("8: place, more lines than places", RefusalTests::crowded, x -> bit(x.place(0, 2)), 0);
        refused("32: undo, nothing was kept", RefusalTests::unkept, x -> bit(x.undo()), 0);
    }

    private static void refusedQuestions() {
        Making rich = RefusalTests::rich;
        for (int g : new int[] {-1, 6}) {
            refused("9: gateIs " + g, rich, x -> x.gateIs(g, 0), -1);
            refused("10: ahead " + g, rich, x -> x.ahead(g, 0), -1);
        }
        refused("9: gateIs, what 6", rich, x -> x.gateIs(0, 6), -1);
        refused("10: ahead, what 3", rich, x -> x.ahead(0, 3), -1);
        refused("11: circuitIs 7", rich, x -> x.circuitIs(7), -1);
        refused("12: amplitude from 8", rich, x -> x.amplitude(8, 0, 0), -1000000000000000000L);
        refused("12: amplitude, what 5", rich, x -> x.amplitude(0, 0, 5), -1000000000000000000L);
        refused("13: chance to 8", rich, x -> x.chance(0, 8, 0), -1000000000000000000L);
        refused("13: chance, what 3", rich, x -> x.chance(0, 0, 3), -1000000000000000000L);
        refused("14: spread from 8", rich, x -> x.spread(8), -1);
        refused("17: same, what 3", rich, x -> x.same(3), -1);
        refused("17: same, nothing was kept", RefusalTests::unkept, x -> x.same(0), -3);
        refused("17: same, another number of lines", RefusalTests::keptOfOtherLines, x -> x.same(2), -3);
        refused("18: boardIs 4", rich, x -> x.boardIs(4), -1);
        refused("19: far 5", rich, x -> x.far(0, 5), -1);
        refused("20: layout 3", rich, x -> x.layout(3), -1);
        refused("21: good 4", rich, x -> x.good(4), -1);
        refused("22: route, look 6", rich, x -> x.route(6, 0), -1);
        refused("22: route, what 3", rich, x -> x.route(0, 3), -1);
        refused("23: routed, what 5", rich, x -> x.routed(0, 0, 5), -1);
        refused("23: routed, i -1", rich, x -> x.routed(0, -1, 0), -1);
        refused("23: routed, not so many", rich, x -> x.routed(0, 70, 0), -4);
        refused("25: fewestOf 5", rich, x -> x.fewestOf(5), -1);
        refused("27: lasts 3", rich, x -> x.lasts(3, 0), -1);
        refused("27: lasts, look 6", rich, x -> x.lasts(2, 6), -1);
        refused("28: urgent 2", rich, x -> x.urgent(2), -1);
        refused("29: bestLook 4", rich, x -> x.bestLook(4), -1);
        refused("34: count 4", rich, x -> x.count(4), -1);
    }

    private static void refusedBoards() {
        Making crowded = RefusalTests::crowded;
        refused("20: layout, more lines than places", crowded, x -> x.layout(0), -3);
        refused("20: layout by place, more lines than places", crowded, x -> x.layout(10), -3);
        refused("20: good layout, more lines than places", crowded, x -> x.layout(20), -3);
        refused("21: good, more lines than places", crowded, x -> x.good(0), -3);
        refused("22: route, more lines than places", crowded, x -> x.route(0, 0), -3);
        refused("23: routed, more lines than places", crowded, x -> x.routed(10, 0, 0), -3);
        refused("24: fewest, more lines than places", crowded, GatesOnBoard::fewest, -3);
        refused("25: fewestOf, more lines than places", crowded, x -> x.fewestOf(1), -3);
        refused("27: lasts, more lines than places", crowded, x -> x.lasts(2, 0), -3);
        refused("29: bestLook, more lines than places", crowded, x -> x.bestLook(0), -3);
        Making unroutable = RefusalTests::unroutable;
        refused("21: good, there is none", RefusalTests::noneGood, x -> x.good(1), -2);
        refused("22: route given up", unroutable, x -> x.route(0, 0), -6);
        refused("22: route given up, loose", unroutable, x -> x.route(10, 0), -6);
        refused("23: routed given up", unroutable, x -> x.routed(0, 0, 0), -6);
        refused("24: fewest, never", unroutable, GatesOnBoard::fewest, -2);
        refused("25: fewestOf, never", unroutable, x -> x.fewestOf(0), -2);
        refused("27: lasts given up", unroutable, x -> x.lasts(2, 3), -6);
        refused("29: bestLook, all given up", unroutable, x -> x.bestLook(0), -2);
    }

    /** What is asked and answered changes nothing either. */
    private static void asked(String name, Call call) {
        GatesOnBoard x = new GatesOnBoard();
        rich(x);
        refused("not, but asked, " + name, RefusalTests::rich, call, call.on(x));
    }

    private static void questions() {
        asked("9: gateIs", x -> x.gateIs(1, 5));
        asked("10: ahead", x -> x.ahead(4, 1));
        asked("11: what all shorter would leave", x -> x.circuitIs(5));
        asked("11: the depth of it", x -> x.circuitIs(6));
        asked("12: amplitude", x -> x.amplitude(0, 5, 4));
        asked("13: chance", x -> x.chance(0, 5, 0));
        asked("14: spread", x -> x.spread(7));
        asked("17: same, an exchange", x -> x.same(2));
        asked("21: good", x -> x.good(3));
        asked("22: route", x -> x.route(0, 10));
        asked("23: routed", x -> x.routed(11, 2, 0));
        asked("24: fewest", GatesOnBoard::fewest);
        asked("25: fewestOf", x -> x.fewestOf(2));
        asked("27: lasts", x -> x.lasts(2, 4));
        asked("28: urgent", x -> x.urgent(1));
        asked("29: bestLook", x -> x.bestLook(2));
    }

    public static void main(String[] args) {
        refusedTapes();
        faults();
        refusedGates();
        refusedQuestions();
        refusedBoards();
        questions();
        CASES.end();
    }
}
