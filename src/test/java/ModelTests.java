import java.util.Random;

/** Runs of calls drawn by fixed seeds: the class must answer as the plain model does. */
public final class ModelTests {
    private static final String[] BOARDS = {
        "2;0-1", "3;0-1;1-2", "4;0-1;1-2;2-3", "5;0-1;1-2;2-3;3-4", "5;0-1;0-2;0-3;0-4", "4;0-1;1-2;2-3;3-0",
        "5;1-0;2-1;3-2;4-3;0-4", "5;0-1;2-3", "4;3-2;2-1", "5;0-1;0-2;0-3;0-4;1-2;1-3;1-4;2-3;2-4;3-4",
        "4;0-1;0-2;0-3;1-2;1-3", "5;4-2;2-0;0-1", "3", "5;0-1;1-2;2-0;3-4", "5;0-2;2-4;4-1;1-3"};

    private final Random random;
    private final Cases cases;
    private GatesOnBoard x = new GatesOnBoard();
    private Model model = new Model();

    private ModelTests(Cases cases, long seed) {
        this.cases = cases;
        random = new Random(seed);
    }

    /** Mostly from 0 on below the bound, now and then beside it. */
    private int near(int bound) {
        return random.nextInt(25) == 0 ? random.nextInt(bound + 4) - 2 : random.nextInt(bound);
    }

    private int anyOf(int... choices) {
        if (random.nextInt(60) == 0) {
            return random.nextInt(4) == 0 ? random.nextInt() : random.nextInt(60) - 5;
        }
        return choices[random.nextInt(choices.length)];
    }

    private String gateText(int n) {
        int kind = random.nextInt(6);
        StringBuilder text = new StringBuilder().append("rhxcdw".charAt(kind));
        int line = random.nextInt(n);
        int other = n > 1 ? (line + 1 + random.nextInt(n - 1)) % n : random.nextInt(2);
        if (kind == 0) {
            text.append(random.nextInt(8)).append(',');
        }
        text.append(line);
        if (kind >= 3) {
            text.append(',').append(other);
        }
        return text.toString();
    }

    private String circuitText() {
        StringBuilder text = new StringBuilder();
        int size = random.nextInt(6) == 0 ? 28 + random.nextInt(5) : random.nextInt(14);
        for (int g = 0; g < size; g++) {
            String more = (g > 0 ? ";" : "") + (size > 25 ? "h" + random.nextInt(model.n) : gateText(model.n));
            text.append(more);
        }
        return spoiled(text, "rhxcdw,;0123456789- ?");
    }

    private String boardText() {
        if (random.nextBoolean()) {
            return spoiled(new StringBuilder(BOARDS[random.nextInt(BOARDS.length)]), "0123456789;-, ");
        }
        int places = 2 + random.nextInt(4);
        StringBuilder text = new StringBuilder().append(places);
        int size = random.nextInt(random.nextInt(4) == 0 ? 12 : places + 2);
        for (int e = 0; e < size; e++) {
            text.append(';').append(random.nextInt(places)).append('-').append(random.nextInt(places));
        }
        return spoiled(text, "0123456789;-, ");
    }

    private String spoiled(StringBuilder text, String signs) {
        if (random.nextInt(5) == 0 && text.length() > 0) {
            int at = random.nextInt(text.length());
            char sign = random.nextInt(9) == 0 ? (char) random.nextInt(256) : signs.charAt(random.nextInt(signs.length()));
            switch (random.nextInt(3)) {
                case 0:
                    text.setCharAt(at, sign);
                    break;
                case 1:
                    text.insert(at, sign);
                    break;
                default:
                    text.deleteCharAt(at);
                    break;
            }
        }
        return text.toString();
    }

    /** A text on the tape of both; how long it is. */
    private int type(String text) {
        StringBuilder all = new StringBuilder(text);
        do {
            all.append((char) random.nextInt(random.nextBoolean() ? 256 : 128));
        } while (all.length() % 20 != 0);
        for (int i = 0; i < all.length(); i += 20) {
            int[] f = new int[5];
            for (int j = 0; j < 5; j++) {
                f[j] = Cases.four(all, i + 4 * j);
            }
            due("feed", x.feed(f[0], f[1], f[2], f[3], f[4]), model.feed(f[0], f[1], f[2], f[3], f[4]));
        }
        return random.nextInt(20) == 0 ? near(150) : text.length();
    }

    private void due(String call, long got, long want) {
        cases.due(call, got, want);
    }

    private void due(String call, boolean got, boolean want) {
        cases.due(call, got, want);
    }

    private void change() {
        int n;
        switch (random.nextInt(16)) {
            case 0:
                n = near(5);
                due("lines " + n, x.lines(n), model.lines(n));
                break;
            case 1:
            case 2:
                n = type(circuitText());
                due("circuit " + n, x.circuit(n), model.circuit(n));
                break;
            case 3:
            case 4:
                n = type(boardText());
                due("board " + n, x.board(n), model.board(n));
                break;
            case 5:
            case 6:
            case 7:
                int kind = near(6);
                int a = near(model.n);
                int b = kind == 1 || kind == 2 ? (random.nextInt(9) == 0 ? 0 : -1) : near(kind == 0 ? 8 : model.n);
                due("gate " + kind + " " + a + " " + b, x.gate(kind, a, b), model.gate(kind, a, b));
                break;
            case 8:
            case 9:
                n = near(11);
                due("draws " + n, x.draws(n), model.draws(n));
                break;
            case 10:
            case 11:
                int line = near(model.n);
                int place = near(model.m);
                due("place " + line + " " + place, x.place(line, place), model.place(line, place));
                break;
            case 12:
                int k = near(6);
                int time = random.nextInt(23) - 1;
                due("spend " + k + " " + time, x.spend(k, time), model.spend(k, time));
                break;
            case 13:
                n = random.nextInt(30) == 0 ? random.nextInt() : near(65536);
                due("seed " + n, x.seed(n), model.seed(n));
                break;
            default:
                changeLess();
                break;
        }
    }

    private void changeLess() {
        switch (random.nextInt(9)) {
            case 0:
            case 1:
                due("keep", x.keep(), model.keep());
                break;
            case 2:
                due("undo", x.undo(), model.undo());
                break;
            case 3:
            case 4:
                due("shorter", x.shorter(), model.shorter());
                break;
            case 5:
                due("shortest", x.shortest(), model.shortest());
                break;
            default:
                StringBuilder kinds = new StringBuilder();
                int size = Math.min(30, Math.max(0, model.gates.size() + random.nextInt(3) - 1));
                for (int i = 0; i < size; i++) {
                    boolean isRight = i < model.gates.size() && random.nextInt(40) > 0;
                    kinds.append((char) (isRight ? model.gates.get(i)[0] : random.nextInt(7)));
                }
                int n = type(kinds.toString());
                due("check " + n, x.check(n), model.check(n));
                break;
        }
    }

    private void ask() {
        int n = model.n;
        int g = near(Math.max(1, model.gates.size()));
        int what = anyOf(0, 1, 2, 3, 4, 5);
        due("gateIs " + g + " " + what, x.gateIs(g, what), model.gateIs(g, what));
        what = near(3);
        due("ahead " + g + " " + what, x.ahead(g, what), model.ahead(g, what));
        what = anyOf(0, 1, 2, 3, 4, 5, 6, 10, 11, 12, 13, 14, 15, 20, 21, 22, 23, 30, 31, 32, 33);
        due("circuitIs " + what, x.circuitIs(what), model.circuitIs(what));
        int from = near(1 << n);
        int to = near(1 << n);
        what = near(5);
        due("amplitude " + from + " " + to + " " + what, x.amplitude(from, to, what), model.amplitude(from, to, what));
        what = near(3);
        due("chance " + from + " " + to + " " + what, x.chance(from, to, what), model.chance(from, to, what));
        due("spread " + from, x.spread(from), model.spread(from));
        what = anyOf(0, 1, 2, 3, 10, 11, 13, 14, 20, 21, 22, 23, 30, 31, 32, 33, 34);
        due("boardIs " + what, x.boardIs(what), model.boardIs(what));
        due("far", x.far(from, to), model.far(from, to));
        what = anyOf(0, 1, 2, 3, 10, 11, 12, 13, 14, 20, 21);
        due("layout " + what, x.layout(what), model.layout(what));
        due("count " + g, x.count(g), model.count(g));
    }

    private void askMore() {
        int what = near(4);
        due("good " + what, x.good(what), model.good(what));
        what = near(3);
        due("same " + what, x.same(what), model.same(what));
        int look = anyOf(0, 1, 2, 3, 4, 5, 10, 11, 12, 13, 14, 15);
        what = anyOf(0, 1, 2, 10, 11, 12, 13);
        due("route " + look + " " + what, x.route(look, what), model.route(look, what));
        int i = near(20);
        what = near(5);
        due("routed " + look + " " + i + " " + what, x.routed(look, i, what), model.routed(look, i, what));
        what = near(4);
        due("bestLook " + what, x.bestLook(what), model.bestLook(what));
        what = near(3);
        due("lasts " + what + " " + look, x.lasts(what, look), model.lasts(what, look));
        what = near(2);
        due("urgent " + what, x.urgent(what), model.urgent(what));
        due("fewest", x.fewest(), model.fewest());
        what = random.nextInt(4) == 0 ? near(5) : 0;
        due("fewestOf " + what, x.fewestOf(what), model.fewestOf(what));
    }

    private void run(int steps) {
        if (random.nextInt(4) > 0) {
            int n = 1 + random.nextInt(4);
            due("lines", x.lines(n), model.lines(n));
            String text = BOARDS[random.nextInt(BOARDS.length)];
            n = type(text);
            due("board", x.board(n), model.board(n));
        }
        for (int i = 0; i < steps; i++) {
            change();
            ask();
            if (i % 3 == 0) {
                askMore();
            }
        }
    }

    /** Gates of two lines above all, so that there is much to swap. */
    private void crowd(int size) {
        due("circuit", x.circuit(0), model.circuit(0));
        for (int i = 0; i < size; i++) {
            int kind = random.nextInt(8) == 0 ? 1 : 3 + random.nextInt(random.nextBoolean() ? 1 : 3);
            int a = random.nextInt(model.n);
            int b = kind == 1 ? -1 : (a + 1 + random.nextInt(model.n - 1)) % model.n;
            due("gate", x.gate(kind, a, b), model.gate(kind, a, b));
        }
        for (int line = 0; line < model.n; line++) {
            int place = random.nextInt(model.m);
            due("place", x.place(line, place), model.place(line, place));
        }
    }

    private void routeAll() {
        for (int look = 0; look <= 15; look += look == 5 ? 5 : 1) {
            for (int what = 0; what <= 10; what += what == 2 ? 8 : 1) {
                due("route " + look + " " + what, x.route(look, what), model.route(look, what));
            }
        }
        int look = random.nextInt(6) + 10 * random.nextInt(2);
        for (int i = 0; i < 70; i += 1 + random.nextInt(6)) {
            for (int what = 0; what < 5; what++) {
                due("routed " + look + " " + i + " " + what, x.routed(look, i, what), model.routed(look, i, what));
            }
        }
        for (int what = 0; what < 4; what++) {
            due("bestLook " + what, x.bestLook(what), model.bestLook(what));
        }
    }

    private void runCrowded() {
        int n = 2 + random.nextInt(3);
        due("lines", x.lines(n), model.lines(n));
        for (int turn = 0; turn < 2; turn++) {
            String text = BOARDS[random.nextInt(BOARDS.length)];
            n = type(text);
            due("board", x.board(n), model.board(n));
            crowd(30);
            routeAll();
            crowd(8 + random.nextInt(9));
            due("fewest", x.fewest(), model.fewest());
            due("fewestOf 0", x.fewestOf(0), model.fewestOf(0));
            if (model.m < 5) {
                for (int what = 1; what < 5; what++) {
                    due("fewestOf " + what, x.fewestOf(what), model.fewestOf(what));
                }
            }
        }
    }

    /** How many runs, from which seed on. */
    public static void main(String[] args) {
        Cases cases = new Cases();
        int runs = args.length > 0 ? Integer.parseInt(args[0]) : 150;
        int first = args.length > 1 ? Integer.parseInt(args[1]) : 1;
        for (int seed = first; seed < first + runs; seed++) {
            cases.begin("model, run " + seed);
            new ModelTests(cases, seed).run(30);
            cases.begin("model, crowded run " + seed);
            new ModelTests(cases, seed).runCrowded();
        }
        cases.end();
    }
}
