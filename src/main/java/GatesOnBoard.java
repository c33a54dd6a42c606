import java.util.Arrays;

/**
 * Gates for a few lines laid on a board. README.md tells how it is used; what it does is told,
 * promise by promise, in the document (DOC.md).
 */
public final class GatesOnBoard {
    public static final int NONE = -1;

    private static final int NOT_THERE = -2;
    private static final int TOO_FEW_ON_TAPE = -2;
    private static final int FULL = -3;
    private static final int MORE_LINES_THAN_PLACES = -3;
    private static final int NOTHING_TO_COMPARE = -3;
    private static final int NOT_SO_MANY = -4;
    private static final int GIVEN_UP = -6;
    private static final long NO_NUMBER = -1000000000000000000L;

    private static final int R = 0;
    private static final int H = 1;
    private static final int X = 2;
    private static final int C = 3;
    private static final int D = 4;
    private static final int W = 5;
    private static final int KINDS = 6;
    private static final int KINDS_OF_ONE_LINE = 3;
    private static final int TURNS = 8;

    private static final int MOST_LINES = 4;
    private static final int MOST_STATES = 16;
    private static final int MOST_GATES = 30;
    private static final int MOST_PLACES = 5;
    private static final int MOST_EDGES = 10;
    private static final int MOST_LAYOUTS = 120;
    private static final int MOST_BYTES = 140;
    private static final int MOST_TEXT = 120;
    private static final int MOST_BOARD_TEXT = 60;
    private static final int MOST_SWAPS = 40;
    private static final int MOST_FEWEST = 6;
    private static final int MOST_LOOK = 5;
    private static final int LOOSE_LOOKS = 10;
    private static final int MOST_TIME = 20;
    private static final int MOST_DRAWN = 10;
    private static final int OUT_OF_REACH = 99;
    private static final int BEYOND_ALL = 1000000000;

    private static final int[] FIRST_TIMES = {1, 1, 1, 3, 3, 6};
    private static final int[] ONE_EACH = {1, 1, 1, 1, 1, 1};

    private final State now = new State();
    private final State kept = new State();
    private boolean isKept;
    private final Tape tape = new Tape();
    private final int[] times = FIRST_TIMES.clone();
    private final GateList spareGates = new GateList(MOST_GATES);
    private final Board spareBoard = new Board();
    private final Layout trial = new Layout();
    private final Rows rows = new Rows();
    private final Column column = new Column();
    private final Column keptColumn = new Column();
    private final int[] aheadBits = new int[MOST_GATES];
    private final Router router = new Router();
    private final Finder finder = new Finder();

    public GatesOnBoard() {
    }

    // ---- the tape, and what is read from it

    public int feed(int a, int b, int c, int d, int e) {
        if (tape.size + 20 > MOST_BYTES) {
            return NONE;
        }
        tape.write(a);
        tape.write(b);
        tape.write(c);
        tape.write(d);
        tape.write(e);
        return tape.size;
    }

    public boolean lines(int n) {
        if (n < 1 || n > MOST_LINES) {
            return false;
        }
        now.lineCount = n;
        now.gates.size = 0;
        now.layout.reset(n);
        return true;
    }

    public int circuit(int n) {
        if (n < 0 || n > MOST_TEXT || n > tape.size) {
            return NONE;
        }
        tape.size = n;
        int fault = tape.readGates(now.lineCount, spareGates);
        tape.size = 0;
        if (fault < 0) {
            return fault;
        }
        now.gates.copyFrom(spareGates);
        return now.gates.size;
    }

    public int board(int n) {
        if (n < 1 || n > MOST_BOARD_TEXT || n > tape.size) {
            return NONE;
        }
        tape.size = n;
        int fault = tape.readBoard(spareBoard);
        tape.size = 0;
        if (fault < 0) {
            return fault;
        }
        spareBoard.measure();
        now.board.copyFrom(spareBoard);
        now.layout.reset(now.lineCount);
        return now.board.edges;
    }

    public int check(int n) {
        if (n < 0 || n > MOST_GATES || n > tape.size) {
            return TOO_FEW_ON_TAPE;
        }
        int right = 0;
        for (int i = 0; i < n && tape.byteAt(i) == now.gates.kindOf(i); i++) {
            right++;
        }
        tape.size = 0;
        return right < n ? right : NONE;
    }

    // ---- gates one by one

    public int gate(int kind, int a, int b) {
        if (!isGate(kind, a, b)) {
            return NONE;
        }
        if (now.gates.size >= MOST_GATES) {
            return FULL;
        }
        now.gates.add(kind, a, b);
        return now.gates.size - 1;
    }

    private boolean isGate(int kind, int a, int b) {
        if (kind < 0 || kind >= KINDS || !isLine(a)) {
            return false;
        }
        if (kind == R) {
            return b >= 0 && b < TURNS;
        }
        if (kind < C) {
            return b == NONE;
        }
        return isLine(b) && a != b;
    }

    private boolean isLine(int line) {
        return line >= 0 && line < now.lineCount;
    }

    public int draws(int m) {
        if (m < 1 || m > MOST_DRAWN) {
            return NONE;
        }
        if (now.gates.size + m > MOST_GATES) {
            return FULL;
        }
        for (int i = 0; i < m; i++) {
            drawGate();
        }
        return now.gates.size;
    }

    private void drawGate() {
        int n = now.lineCount;
        int kind = now.drawBelow(n == 1 ? KINDS_OF_ONE_LINE : KINDS);
        int first = now.drawBelow(n);
        int second = NONE;
        if (kind == R) {
            second = now.drawBelow(TURNS);
        } else if (kind >= C) {
            second = first + 1 + now.drawBelow(n - 1);
            second = second < n ? second : second - n;
        }
        now.gates.add(kind, first, second);
    }

    public boolean seed(int x) {
        if (x < 0 || x > 65535) {
            return false;
        }
        now.drawn = x;
        return true;
    }

    public int gateIs(int g, int what) {
        if (!now.gates.has(g) || what < 0 || what > 5) {
            return NONE;
        }
        return what < 4 ? now.gates.partOf(g, what) : now.gates.depthOf(g, what == 5);
    }

    public int ahead(int g, int what) {
        if (!now.gates.has(g) || what < 0 || what > 2) {
            return NONE;
        }
        if (what == 2) {
            return now.gates.commutingWith(g);
        }
        now.gates.fillAhead(what == 1, aheadBits);
        return valueAt(aheadBits, g);
    }

    // ---- the circuit

    public int circuitIs(int what) {
        GateList gates = now.gates;
        switch (what) {
            case 0:
                return gates.size;
            case 1:
                return gates.reckon(ONE_EACH, false);
            case 2:
                return gates.reckon(ONE_EACH, true);
            case 3:
                return gates.countOfKind(C) + gates.countOfKind(D) + gates.countOfKind(W);
            case 4:
                column.pass(gates, now.lineCount, 0);
                return column.power;
            case 5:
                spareGates.copyFrom(gates);
                spareGates.shortenAll();
                return spareGates.size;
            case 6:
                spareGates.copyFrom(gates);
                spareGates.shortenAll();
                return spareGates.reckon(ONE_EACH, false);
            default:
                return circuitHas(what);
        }
    }

    private int circuitHas(int what) {
        if (what >= 10 && what < 10 + KINDS) {
            return now.gates.countOfKind(what - 10);
        }
        if (isLine(what - 20)) {
            return now.gates.turnsOn(what - 20);
        }
        if (isLine(what - 30)) {
            return now.gates.countOnLine(what - 30);
        }
        return NONE;
    }

    public int shorter() {
        return now.gates.shorten();
    }

    public int shortest() {
        return now.gates.shortenAll();
    }

    // ---- amplitudes

    private boolean isState(int state) {
        return state >= 0 && state < 1 << now.lineCount;
    }

    public long amplitude(int from, int to, int what) {
        if (!isState(from) || !isState(to) || what < 0 || what > 4) {
            return NO_NUMBER;
        }
        column.pass(now.gates, now.lineCount, from);
        return what == 4 ? column.power : column.part(to, what);
    }

    public long chance(int from, int to, int what) {
        if (!isState(from) || !isState(to) || what < 0 || what > 2) {
            return NO_NUMBER;
        }
        column.pass(now.gates, now.lineCount, from);
        if (what == 2) {
            return column.power;
        }
        long a = column.part(to, 0);
        long b = column.part(to, 1);
        long c = column.part(to, 2);
        long d = column.part(to, 3);
        return what == 0 ? a * a + b * b + c * c + d * d : a * b + b * c + c * d - d * a;
    }

    public int spread(int from) {
        if (!isState(from)) {
            return NONE;
        }
        column.pass(now.gates, now.lineCount, from);
        return column.countNotZero();
    }

    public int same(int what) {
        if (what < 0 || what > 2) {
            return NONE;
        }
        if (!isKept || kept.lineCount != now.lineCount) {
            return NOTHING_TO_COMPARE;
        }
        if (what == 2) {
            return lowestOf(ordersAlike());
        }
        int turns = turnsAlike();
        return what == 0 ? turns & 1 : lowestOf(turns);
    }

    private void passBoth(int from) {
        keptColumn.pass(kept.gates, kept.lineCount, from);
        column.pass(now.gates, now.lineCount, from);
    }

    private int turnsAlike() {
        int turns = (1 << TURNS) - 1;
        for (int from = 0; from < 1 << now.lineCount && turns != 0; from++) {
            passBoth(from);
            for (int turn = 0; turn < TURNS; turn++) {
                if (!column.isTurned(keptColumn, turn)) {
                    turns &= ~(1 << turn);
                }
            }
        }
        return turns;
    }

    private int ordersAlike() {
        // an order of LINES is told as a layout of them on as many places
        rows.fill(now.lineCount, now.lineCount);
        int orders = (1 << rows.size) - 1;
        for (int from = 0; from < 1 << now.lineCount && orders != 0; from++) {
            passBoth(from);
            for (int i = 0; i < rows.size; i++) {
                trial.read(rows.rowAt(i), now.lineCount);
                if (!column.isExchanged(keptColumn, trial)) {
                    orders &= ~(1 << i);
                }
            }
        }
        return orders;
    }

    private static int lowestOf(int bits) {
        for (int i = 0; i < 31; i++) {
            if ((bits >> i & 1) != 0) {
                return i;
            }
        }
        return NOT_THERE;
    }

    // ---- the board and layouts

    public int boardIs(int what) {
        Board board = now.board;
        switch (what) {
            case 0:
                return board.places;
            case 1:
                return board.edges;
            case 2:
                return board.greatestFar();
            case 3:
                return board.greatestFar() < OUT_OF_REACH ? 1 : 0;
            default:
                break;
        }
        if (board.hasEdge(what - 10)) {
            return board.lowOf(what - 10);
        }
        if (board.hasEdge(what - 20)) {
            return board.highOf(what - 20);
        }
        return board.hasPlace(what - 30) ? board.edgesAt(what - 30) : NONE;
    }

    public int far(int p, int q) {
        return now.board.hasPlace(p) && now.board.hasPlace(q) ? now.board.farOf(p, q) : NONE;
    }

    private boolean hasTooManyLines() {
        return now.lineCount > now.board.places;
    }

    public boolean place(int line, int place) {
        if (!isLine(line) || !now.board.hasPlace(place) || hasTooManyLines()) {
            return false;
        }
        now.layout.exchange(now.layout.placeOf(line), place);
        return true;
    }

    public int layout(int what) {
        boolean isPlace = now.board.hasPlace(what - 10);
        if (!isLine(what) && !isPlace && what != 20 && what != 21) {
            return NONE;
        }
        if (hasTooManyLines()) {
            return MORE_LINES_THAN_PLACES;
        }
        if (isLine(what)) {
            return now.layout.placeOf(what);
        }
        if (isPlace) {
            int line = now.layout.lineAt(what - 10);
            return line == NONE ? NOT_THERE : line;
        }
        if (what == 20) {
            return now.layout.isGood(now.gates, now.board) ? 1 : 0;
        }
        return now.layout.farOfAll(now.gates, now.board);
    }

    public int good(int what) {
        if (what < 0 || what > 3) {
            return NONE;
        }
        if (hasTooManyLines()) {
            return MORE_LINES_THAN_PLACES;
        }
        rows.fill(now.lineCount, now.board.places);
        return what < 2 ? goodLayouts(what == 1) : nearestLayout(what == 3);
    }

    private int goodLayouts(boolean tellFirst) {
        int many = 0;
        for (int i = 0; i < rows.size; i++) {
            trial.read(rows.rowAt(i), now.lineCount);
            if (trial.isGood(now.gates, now.board)) {
                if (tellFirst) {
                    return rows.rowAt(i);
                }
                many++;
            }
        }
        return tellFirst ? NOT_THERE : many;
    }

    private int nearestLayout(boolean tellFirst) {
        int least = BEYOND_ALL;
        int first = NOT_THERE;
        for (int i = 0; i < rows.size; i++) {
            trial.read(rows.rowAt(i), now.lineCount);
            int far = trial.farOfAll(now.gates, now.board);
            if (far < least) {
                least = far;
                first = rows.rowAt(i);
            }
        }
        return tellFirst ? first : least;
    }

    // ---- the route

    private static boolean isLook(int look) {
        return look >= 0 && look <= MOST_LOOK
            || look >= LOOSE_LOOKS && look <= LOOSE_LOOKS + MOST_LOOK;
    }

    /** Answers why there is no such route, or 0 when the router holds it. */
    private int findRoute(int look) {
        if (hasTooManyLines()) {
            return MORE_LINES_THAN_PLACES;
        }
        boolean isLoose = look >= LOOSE_LOOKS;
        router.course.begin(now, isLoose);
        return router.run(isLoose ? look - LOOSE_LOOKS : look) ? 0 : GIVEN_UP;
    }

    public int route(int look, int what) {
        if (!isLook(look) || !isLine(what - 10) && (what < 0 || what > 2)) {
            return NONE;
        }
        int refusal = findRoute(look);
        if (refusal < 0) {
            return refusal;
        }
        switch (what) {
            case 0:
                return router.swaps;
            case 1:
                return router.steps.size;
            case 2:
                return router.steps.reckon(ONE_EACH, false);
            default:
                return router.course.layout.placeOf(what - 10);
        }
    }

    public int routed(int look, int i, int what) {
        if (!isLook(look) || i < 0 || what < 0 || what > 4) {
            return NONE;
        }
        int refusal = findRoute(look);
        if (refusal < 0) {
            return refusal;
        }
        if (!router.steps.has(i)) {
            return NOT_SO_MANY;
        }
        if (what == 4) {
            return router.isSwap(i) ? 1 : 0;
        }
        return router.steps.partOf(i, what);
    }

    public int bestLook(int what) {
        if (what < 0 || what > 3) {
            return NONE;
        }
        if (hasTooManyLines()) {
            return MORE_LINES_THAN_PLACES;
        }
        int first = what < 2 ? 0 : LOOSE_LOOKS;
        int least = BEYOND_ALL;
        int best = NOT_THERE;
        for (int look = first; look <= first + MOST_LOOK; look++) {
            if (findRoute(look) == 0 && router.swaps < least) {
                least = router.swaps;
                best = look;
            }
        }
        return best == NOT_THERE || what % 2 == 0 ? best : least;
    }

    // ---- the fewest swaps

    public int fewest() {
        return hasTooManyLines() ? MORE_LINES_THAN_PLACES : fewestFromLayout(false);
    }

    public int fewestOf(int what) {
        if (what < 0 || what > 4) {
            return NONE;
        }
        if (hasTooManyLines()) {
            return MORE_LINES_THAN_PLACES;
        }
        if (what == 0) {
            return fewestFromLayout(true);
        }
        return fewestFromAll(what >= 3, what % 2 == 0);
    }

    private int fewestFromLayout(boolean isLoose) {
        finder.course.begin(now, isLoose);
        finder.forget();
        for (int swaps = 0; swaps <= MOST_FEWEST; swaps++) {
            finder.course.goBackTo(now.layout);
            if (Finder.canEnd(finder, swaps)) {
                return swaps;
            }
        }
        return NOT_THERE;
    }

    private int fewestFromAll(boolean isLoose, boolean tellFirst) {
        rows.fill(now.lineCount, now.board.places);
        finder.course.begin(now, isLoose);
        finder.forget();
        for (int swaps = 0; swaps <= MOST_FEWEST; swaps++) {
            for (int i = 0; i < rows.size; i++) {
                trial.read(rows.rowAt(i), now.lineCount);
                finder.course.goBackTo(trial);
                if (Finder.canEnd(finder, swaps)) {
                    return tellFirst ? rows.rowAt(i) : swaps;
                }
            }
        }
        return NOT_THERE;
    }

    // ---- times

    public boolean spend(int kind, int time) {
        if (kind < 0 || kind >= times.length || time < 1 || time > MOST_TIME) {
            return false;
        }
        times[kind] = time;
        return true;
    }

    public int lasts(int what, int look) {
        if (what == 0 || what == 1) {
            return now.gates.reckon(times, what == 1);
        }
        if (what != 2 || !isLook(look)) {
            return NONE;
        }
        int refusal = findRoute(look);
        return refusal < 0 ? refusal : router.steps.reckon(times, false);
    }

    public int urgent(int what) {
        return what == 0 || what == 1 ? now.gates.urgentOnes(times, what == 1) : NONE;
    }

    // ---- what is kept, and counts

    public int keep() {
        kept.copyFrom(now);
        isKept = true;
        return now.gates.size;
    }

    public boolean undo() {
        if (!isKept) {
            return false;
        }
        now.copyFrom(kept);
        return true;
    }

    public int count(int what) {
        switch (what) {
            case 0:
                return now.gates.size;
            case 1:
                return now.lineCount;
            case 2:
                return tape.size;
            case 3:
                return now.drawn;
            default:
                return NONE;
        }
    }

    // ---- rows: no index is used unlooked at

    private static int valueAt(int[] row, int i) {
        return i >= 0 && i < row.length ? row[i] : NONE;
    }

    private static void putAt(int[] row, int i, int value) {
        if (i >= 0 && i < row.length) {
            row[i] = value;
        }
    }

    /** All that is KEPT and UNDONE. */
    private static final class State {
        int lineCount = 2;
        final GateList gates = new GateList(MOST_GATES);
        final Board board = new Board();
        final Layout layout = new Layout();
        int drawn = 1;

        void copyFrom(State other) {
            lineCount = other.lineCount;
            gates.copyFrom(other.gates);
            board.copyFrom(other.board);
            layout.copyFrom(other.layout);
            drawn = other.drawn;
        }

        int drawBelow(int bound) {
            drawn = (25173 * drawn + 13849) & 65535;
            return bound > 0 ? drawn % bound : 0;
        }
    }

    /** Bytes that wait to be read, and the reading of texts. */
    private static final class Tape {
        private static final int END = -1;
        private static final String LETTERS = "rhxcdw";

        final int[] bytes = new int[MOST_BYTES];
        int size;

        void write(int four) {
            for (int shift = 24; shift >= 0; shift -= 8) {
                putAt(bytes, size, four >> shift & 255);
                size++;
            }
        }

        int byteAt(int at) {
            return at < size ? valueAt(bytes, at) : END;
        }

        private static int fault(int number, int at) {
            return -1000 * number - at;
        }

        /** A digit from least on, below bound, or the fault. */
        private int digitAt(int at, int least, int bound) {
            int sign = byteAt(at);
            if (sign < '0' || sign > '9') {
                return fault(1, at);
            }
            int digit = sign - '0';
            return digit >= least && digit < bound ? digit : fault(3, at);
        }

        /** Answers a fault, or 0. */
        int readGates(int lineCount, GateList into) {
            into.size = 0;
            if (size == 0) {
                return 0;
            }
            int at = 0;
            for (int g = 0; g < MOST_GATES; g++) {
                int end = readGate(at, lineCount, into);
                if (end < 0 || end == size) {
                    return Math.min(end, 0);
                }
                if (byteAt(end) != ';') {
                    return fault(1, end);
                }
                at = end + 1;
            }
            return fault(4, at);
        }

        /** Answers where the gate ends, or a fault. */
        private int readGate(int at, int lineCount, GateList into) {
            int sign = byteAt(at);
            int kind = sign == END ? NONE : LETTERS.indexOf((char) sign);
            if (kind < 0) {
                return fault(1, at);
            }
            int one = digitAt(at + 1, 0, kind == R ? TURNS : lineCount);
            if (one < 0) {
                return one;
            }
            if (kind == H || kind == X) {
                into.add(kind, one, NONE);
                return at + 2;
            }
            if (byteAt(at + 2) != ',') {
                return fault(1, at + 2);
            }
            int two = digitAt(at + 3, 0, lineCount);
            if (two < 0) {
                return two;
            }
            if (kind == R) {
                into.add(R, two, one);
                return at + 4;
            }
            if (one == two) {
                return fault(6, at + 3);
            }
            into.add(kind, one, two);
            return at + 4;
        }

        /** Answers a fault, or 0. */
        int readBoard(Board into) {
            int places = digitAt(0, 2, MOST_PLACES + 1);
            if (places < 0) {
                return places;
            }
            into.places = places;
            into.edges = 0;
            for (int at = 1; at < size; at += 4) {
                int fault = readEdge(at, into);
                if (fault < 0) {
                    return fault;
                }
            }
            return 0;
        }

        private int readEdge(int at, Board into) {
            if (byteAt(at) != ';') {
                return fault(1, at);
            }
            if (into.edges == MOST_EDGES) {
                return fault(4, at + 1);
            }
            int p = digitAt(at + 1, 0, into.places);
            if (p < 0) {
                return p;
            }
            if (byteAt(at + 2) != '-') {
                return fault(1, at + 2);
            }
            int q = digitAt(at + 3, 0, into.places);
            if (q < 0) {
                return q;
            }
            if (p == q || into.joins(p, q)) {
                return fault(6, at + 3);
            }
            into.addEdge(p, q);
            return 0;
        }
    }

    /** Gates in their order, on lines, or on places once they are routed. */
    private static final class GateList {
        final int[] kinds;
        final int[] firsts;
        final int[] seconds;
        final int[] masks;
        final int[] begins;
        final int[] lates;
        int size;

        GateList(int most) {
            int room = Math.max(most, 0);
            kinds = new int[room];
            firsts = new int[room];
            seconds = new int[room];
            masks = new int[room];
            begins = new int[room];
            lates = new int[room];
        }

        boolean has(int g) {
            return g >= 0 && g < size && g < kinds.length;
        }

        int kindOf(int g) {
            return g >= 0 && g < size && g < kinds.length ? kinds[g] : NONE;
        }

        int firstOf(int g) {
            return g >= 0 && g < size && g < firsts.length ? firsts[g] : NONE;
        }

        /** The second line, or K of a gate r. */
        int secondOf(int g) {
            return g >= 0 && g < size && g < seconds.length ? seconds[g] : NONE;
        }

        /** KIND, the first line, the second one, K. */
        int partOf(int g, int what) {
            switch (what) {
                case 0:
                    return kindOf(g);
                case 1:
                    return firstOf(g);
                case 2:
                    return isOfTwo(g) ? secondOf(g) : NOT_THERE;
                case 3:
                    return kindOf(g) == R ? secondOf(g) : NOT_THERE;
                default:
                    return NONE;
            }
        }

        boolean isOfTwo(int g) {
            return g >= 0 && g < size && g < kinds.length && kinds[g] >= C;
        }

        int linesOf(int g) {
            return has(g) ? valueAt(masks, g) : 0;
        }

        void add(int kind, int first, int second) {
            if (size < kinds.length) {
                putAt(kinds, size, kind);
                putAt(firsts, size, first);
                putAt(seconds, size, second);
                putAt(masks, size, kind >= C ? 1 << first | 1 << second : 1 << first);
                size++;
            }
        }

        void copyFrom(GateList other) {
            size = 0;
            for (int g = 0; g < other.size; g++) {
                add(other.kindOf(g), other.firstOf(g), other.secondOf(g));
            }
        }

        int countOfKind(int kind) {
            int many = 0;
            for (int g = 0; g < size; g++) {
                many += kindOf(g) == kind ? 1 : 0;
            }
            return many;
        }

        int countOnLine(int line) {
            int many = 0;
            for (int g = 0; g < size; g++) {
                many += linesOf(g) >> line & 1;
            }
            return many;
        }

        int turnsOn(int line) {
            int turns = 0;
            for (int g = 0; g < size; g++) {
                if (kindOf(g) == R && firstOf(g) == line) {
                    turns += secondOf(g);
                }
            }
            return turns & TURNS - 1;
        }

        // -- which may change places

        private boolean isIdle(int g) {
            return kindOf(g) == R && secondOf(g) == 0;
        }

        /**
         * How a gate (no w) takes one of its lines: gates that take all they share alike commute.
         * D where it but looks which state stands there, X where it but turns it over, H else.
         */
        private int mannerOf(int g, int line) {
            switch (kindOf(g)) {
                case R:
                case D:
                    return D;
                case C:
                    return firstOf(g) == line ? D : X;
                case X:
                    return X;
                default:
                    return H;
            }
        }

        boolean commute(int g, int h) {
            int shared = linesOf(g) & linesOf(h);
            if (shared == 0 || isIdle(g) || isIdle(h)) {
                return true;
            }
            if (kindOf(g) == W || kindOf(h) == W) {
                // neither d nor w tells its two lines apart
                return kindOf(g) >= D && kindOf(h) >= D && linesOf(g) == linesOf(h);
            }
            for (int line = 0; line < MOST_LINES; line++) {
                if ((shared >> line & 1) != 0 && mannerOf(g, line) != mannerOf(h, line)) {
                    return false;
                }
            }
            return true;
        }

        int commutingWith(int g) {
            int bits = 0;
            for (int h = 0; h < size; h++) {
                if (commute(g, h)) {
                    bits |= 1 << h;
                }
            }
            return bits;
        }

        // -- what waits for what

        private boolean waitsFor(int g, int h, boolean isLoose) {
            return (linesOf(g) & linesOf(h)) != 0 && !(isLoose && commute(g, h));
        }

        void fillAhead(boolean isLoose, int[] ahead) {
            for (int g = 0; g < size; g++) {
                int bits = 0;
                for (int h = 0; h < g; h++) {
                    if (waitsFor(g, h, isLoose)) {
                        bits |= 1 << h | valueAt(ahead, h);
                    }
                }
                putAt(ahead, g, bits);
            }
        }

        private int timeOf(int g, int[] times) {
            return valueAt(times, kindOf(g));
        }

        /** When each gate begins; answers when the last one ends. */
        int reckon(int[] times, boolean isLoose) {
            int last = 0;
            for (int g = 0; g < size; g++) {
                int begin = 0;
                for (int h = 0; h < g; h++) {
                    if (waitsFor(g, h, isLoose)) {
                        begin = Math.max(begin, valueAt(begins, h) + timeOf(h, times));
                    }
                }
                putAt(begins, g, begin);
                last = Math.max(last, begin + timeOf(g, times));
            }
            return last;
        }

        int depthOf(int g, boolean isLoose) {
            reckon(ONE_EACH, isLoose);
            return valueAt(begins, g) + 1;
        }

        int urgentOnes(int[] times, boolean isLoose) {
            int last = reckon(times, isLoose);
            int bits = 0;
            for (int g = size - 1; g >= 0; g--) {
                int late = last;
                for (int h = g + 1; h < size; h++) {
                    if (waitsFor(h, g, isLoose)) {
                        late = Math.min(late, valueAt(lates, h) - timeOf(h, times));
                    }
                }
                putAt(lates, g, late);
                if (valueAt(begins, g) + timeOf(g, times) == late) {
                    bits |= 1 << g;
                }
            }
            return bits;
        }

        // -- shorter

        int shortenAll() {
            int before = size;
            for (int step = 0; step < before; step++) {
                if (shorten() == 0) {
                    break;
                }
            }
            return before - size;
        }

        /** One step: how many gates fell. */
        int shorten() {
            for (int g = 0; g < size; g++) {
                if (isIdle(g)) {
                    drop(g);
                    return 1;
                }
            }
            for (int i = 0; i < size; i++) {
                for (int j = i + 1; j < size; j++) {
                    if (areAlike(i, j) && fallsBackTo(i, j)) {
                        return join(i, j);
                    }
                }
            }
            return 0;
        }

        private boolean areAlike(int i, int j) {
            if (kindOf(i) != kindOf(j) || linesOf(i) != linesOf(j)) {
                return false;
            }
            return kindOf(i) != C || firstOf(i) == firstOf(j);
        }

        private boolean fallsBackTo(int i, int j) {
            for (int g = i + 1; g < j; g++) {
                if (!commute(g, j)) {
                    return false;
                }
            }
            return true;
        }

        private int join(int i, int j) {
            if (kindOf(i) == R) {
                putAt(seconds, i, secondOf(i) + secondOf(j) & TURNS - 1);
                drop(j);
                return 1;
            }
            drop(j);
            drop(i);
            return 2;
        }

        private void drop(int g) {
            for (int h = g + 1; h < size; h++) {
                putAt(kinds, h - 1, kindOf(h));
                putAt(firsts, h - 1, firstOf(h));
                putAt(seconds, h - 1, secondOf(h));
                putAt(masks, h - 1, linesOf(h));
            }
            size--;
        }
    }

    /** What comes out of one state: for each state four parts a to d, all by R to one power. */
    private static final class Column {
        final long[] parts = new long[4 * MOST_STATES];
        int states;
        int power;

        void pass(GateList gates, int lineCount, int from) {
            Arrays.fill(parts, 0);
            states = Math.min(1 << lineCount, MOST_STATES);
            power = 0;
            if (from >= 0 && from < states) {
                parts[4 * from] = 1;
            }
            for (int g = 0; g < gates.size; g++) {
                apply(gates.kindOf(g), gates.firstOf(g), gates.secondOf(g));
            }
            normalise();
        }

        long part(int state, int i) {
            return state >= 0 && state < states && i >= 0 && i < 4 ? parts[4 * state + i] : 0;
        }

        private void apply(int kind, int first, int second) {
            int one = 1 << first;
            int two = kind >= C ? 1 << second : 0;
            for (int s = 0; s < states; s++) {
                boolean isOne = (s & one) != 0;
                boolean isTwo = (s & two) != 0;
                if (kind == R && isOne) {
                    turn(s, second);
                } else if (kind == H && !isOne) {
                    mix(s, s | one);
                } else if (kind == X && !isOne) {
                    exchange(s, s | one);
                } else if (kind == C && isOne && !isTwo) {
                    exchange(s, s | two);
                } else if (kind == D && isOne && isTwo) {
                    turn(s, 4);
                } else if (kind == W && isOne && !isTwo) {
                    exchange(s, s ^ one ^ two);
                }
            }
            power += kind == H ? 1 : 0;
        }

        private void turn(int s, int eighths) {
            int at = 4 * s;
            if (at < 0 || at + 3 >= parts.length) {
                return;
            }
            for (int k = 0; k < eighths; k++) {
                long last = parts[at + 3];
                parts[at + 3] = parts[at + 2];
                parts[at + 2] = parts[at + 1];
                parts[at + 1] = parts[at];
                parts[at] = -last;
            }
        }

        private void mix(int s, int t) {
            if (s < 0 || t < 0 || s >= states || t >= states) {
                return;
            }
            for (int i = 0; i < 4; i++) {
                long f = parts[4 * s + i];
                long g = parts[4 * t + i];
                parts[4 * s + i] = f + g;
                parts[4 * t + i] = f - g;
            }
        }

        private void exchange(int s, int t) {
            if (s < 0 || t < 0 || s >= states || t >= states) {
                return;
            }
            for (int i = 0; i < 4; i++) {
                long f = parts[4 * s + i];
                parts[4 * s + i] = parts[4 * t + i];
                parts[4 * t + i] = f;
            }
        }

        private void normalise() {
            int most = power;
            for (int i = 0; i < most; i++) {
                if (!isByRoot()) {
                    break;
                }
                divideByRoot();
                power--;
            }
        }

        private boolean isByRoot() {
            for (int at = 0; at + 3 < parts.length; at += 4) {
                if ((parts[at] - parts[at + 2] & 1) != 0
                    || (parts[at + 1] - parts[at + 3] & 1) != 0) {
                    return false;
                }
            }
            return true;
        }

        /** Times R, then by 2: R is u less u u u. */
        private void divideByRoot() {
            for (int at = 0; at + 3 < parts.length; at += 4) {
                long a = parts[at];
                long b = parts[at + 1];
                long c = parts[at + 2];
                long d = parts[at + 3];
                parts[at] = (b - d) / 2;
                parts[at + 1] = (a + c) / 2;
                parts[at + 2] = (b + d) / 2;
                parts[at + 3] = (c - a) / 2;
            }
        }

        int countNotZero() {
            int many = 0;
            for (int s = 0; s < states; s++) {
                if (part(s, 0) != 0 || part(s, 1) != 0 || part(s, 2) != 0 || part(s, 3) != 0) {
                    many++;
                }
            }
            return many;
        }

        /** Whether this is the first one times u to the power of turn. */
        boolean isTurned(Column first, int turn) {
            if (power != first.power) {
                return false;
            }
            for (int s = 0; s < states; s++) {
                for (int i = 0; i < 4; i++) {
                    int from = i - turn & TURNS - 1;
                    long due = from < 4 ? first.part(s, from) : -first.part(s, from - 4);
                    if (part(s, i) != due) {
                        return false;
                    }
                }
            }
            return true;
        }

        /** Whether this is the first one with each line put where the order tells. */
        boolean isExchanged(Column first, Layout order) {
            if (power != first.power) {
                return false;
            }
            for (int s = 0; s < states; s++) {
                int t = 0;
                for (int line = 0; line < MOST_LINES; line++) {
                    if ((s >> line & 1) != 0) {
                        t |= 1 << order.placeOf(line);
                    }
                }
                for (int i = 0; i < 4; i++) {
                    if (part(t, i) != first.part(s, i)) {
                        return false;
                    }
                }
            }
            return true;
        }
    }

    /** Places with edges between them. */
    private static final class Board {
        int places = 2;
        int edges = 1;
        final int[] lows = new int[MOST_EDGES];
        final int[] highs = new int[MOST_EDGES];
        final int[][] fars = new int[MOST_PLACES][MOST_PLACES];

        Board() {
            highs[0] = 1;
            fars[0][1] = 1;
            fars[1][0] = 1;
        }

        boolean hasPlace(int p) {
            return p >= 0 && p < places;
        }

        boolean hasEdge(int e) {
            return e >= 0 && e < edges;
        }

        int lowOf(int e) {
            return hasEdge(e) ? valueAt(lows, e) : NONE;
        }

        int highOf(int e) {
            return hasEdge(e) ? valueAt(highs, e) : NONE;
        }

        void addEdge(int p, int q) {
            if (edges < MOST_EDGES) {
                putAt(lows, edges, Math.min(p, q));
                putAt(highs, edges, Math.max(p, q));
                edges++;
            }
        }

        boolean joins(int p, int q) {
            for (int e = 0; e < edges; e++) {
                if (lowOf(e) == Math.min(p, q) && highOf(e) == Math.max(p, q)) {
                    return true;
                }
            }
            return false;
        }

        int edgesAt(int p) {
            int many = 0;
            for (int e = 0; e < edges; e++) {
                many += lowOf(e) == p || highOf(e) == p ? 1 : 0;
            }
            return many;
        }

        void copyFrom(Board other) {
            places = other.places;
            edges = 0;
            for (int e = 0; e < other.edges; e++) {
                addEdge(other.lowOf(e), other.highOf(e));
            }
            for (int p = 0; p < MOST_PLACES; p++) {
                for (int q = 0; q < MOST_PLACES; q++) {
                    fars[p][q] = other.fars[p][q];
                }
            }
        }

        void measure() {
            for (int p = 0; p < MOST_PLACES; p++) {
                for (int q = 0; q < MOST_PLACES; q++) {
                    fars[p][q] = p == q ? 0 : joins(p, q) ? 1 : OUT_OF_REACH;
                }
            }
            for (int by = 0; by < MOST_PLACES; by++) {
                for (int p = 0; p < MOST_PLACES; p++) {
                    for (int q = 0; q < MOST_PLACES; q++) {
                        fars[p][q] = Math.min(fars[p][q], fars[p][by] + fars[by][q]);
                    }
                }
            }
        }

        int farOf(int p, int q) {
            boolean areThere = p >= 0 && q >= 0 && p < places && q < places;
            return areThere && p < MOST_PLACES && q < MOST_PLACES ? fars[p][q] : OUT_OF_REACH;
        }

        int greatestFar() {
            int most = 0;
            for (int p = 0; p < places; p++) {
                for (int q = 0; q < p; q++) {
                    most = Math.max(most, farOf(p, q));
                }
            }
            return most;
        }
    }

    /** Where each line is, and what is at each place. */
    private static final class Layout {
        final int[] placesOfLines = new int[MOST_LINES];
        final int[] linesAtPlaces = new int[MOST_PLACES];

        Layout() {
            reset(2);
        }

        /** Line l is at place l. */
        void reset(int lineCount) {
            for (int line = 0; line < MOST_LINES; line++) {
                placesOfLines[line] = line;
            }
            for (int p = 0; p < MOST_PLACES; p++) {
                linesAtPlaces[p] = p < lineCount ? p : NONE;
            }
        }

        /** Places of lines from a number that has a digit for each. */
        void read(int row, int lineCount) {
            Arrays.fill(linesAtPlaces, NONE);
            int rest = row;
            for (int line = Math.min(lineCount, MOST_LINES) - 1; line >= 0; line--) {
                int p = rest % 10;
                put(line, p);
                rest /= 10;
            }
        }

        void copyFrom(Layout other) {
            for (int line = 0; line < MOST_LINES; line++) {
                placesOfLines[line] = other.placesOfLines[line];
            }
            for (int p = 0; p < MOST_PLACES; p++) {
                linesAtPlaces[p] = other.linesAtPlaces[p];
            }
        }

        int placeOf(int line) {
            return line >= 0 && line < placesOfLines.length ? placesOfLines[line] : NONE;
        }

        int lineAt(int p) {
            return p >= 0 && p < linesAtPlaces.length ? linesAtPlaces[p] : NONE;
        }

        void exchange(int p, int q) {
            int lineOfP = lineAt(p);
            int lineOfQ = lineAt(q);
            put(lineOfP, q);
            put(lineOfQ, p);
        }

        private void put(int line, int p) {
            if (p >= 0 && p < linesAtPlaces.length) {
                linesAtPlaces[p] = line;
            }
            if (line >= 0 && line < placesOfLines.length) {
                placesOfLines[line] = p;
            }
        }

        /** FAR of a gate of two lines. */
        int farOfGate(GateList gates, int g, Board board) {
            return board.farOf(placeOf(gates.firstOf(g)), placeOf(gates.secondOf(g)));
        }

        boolean isGood(GateList gates, Board board) {
            for (int g = 0; g < gates.size; g++) {
                if (gates.isOfTwo(g) && farOfGate(gates, g, board) != 1) {
                    return false;
                }
            }
            return true;
        }

        int farOfAll(GateList gates, Board board) {
            int far = 0;
            for (int g = 0; g < gates.size; g++) {
                if (gates.isOfTwo(g)) {
                    far += farOfGate(gates, g, board) - 1;
                }
            }
            return far;
        }

        /** One number for all places, three bits a line. */
        int code() {
            int code = 0;
            for (int line = 0; line < MOST_LINES; line++) {
                code = code << 3 | placesOfLines[line] & 7;
            }
            return code;
        }
    }

    /** All layouts of lines on places, rising, each as a number with a digit for each line. */
    private static final class Rows {
        final int[] numbers = new int[MOST_LAYOUTS];
        int size;

        void fill(int lineCount, int places) {
            size = 0;
            int codes = 1;
            for (int line = 0; line < lineCount; line++) {
                codes *= places;
            }
            for (int code = 0; code < codes; code++) {
                int number = numberOf(code, lineCount, places);
                if (number >= 0) {
                    putAt(numbers, size, number);
                    size++;
                }
            }
        }

        /** The digits of a code, or NONE if one stands there twice. */
        private static int numberOf(int code, int lineCount, int places) {
            int used = 0;
            int number = 0;
            int tens = 1;
            int rest = code;
            for (int line = 0; line < lineCount && places > 0; line++) {
                int digit = rest % places;
                if ((used >> digit & 1) != 0) {
                    return NONE;
                }
                used |= 1 << digit;
                number += digit * tens;
                tens *= 10;
                rest /= places;
            }
            return number;
        }

        int rowAt(int i) {
            return i < size ? valueAt(numbers, i) : NONE;
        }
    }

    /** A circuit underway on a board: where its lines are, what is done. */
    private static final class Course {
        final GateList gates = new GateList(MOST_GATES);
        final Board board = new Board();
        final Layout layout = new Layout();
        final int[] ahead = new int[MOST_GATES];
        int done;

        void begin(State state, boolean isLoose) {
            gates.copyFrom(state.gates);
            board.copyFrom(state.board);
            gates.fillAhead(isLoose, ahead);
            goBackTo(state.layout);
        }

        /** Nothing is done, from this layout. */
        void goBackTo(Layout start) {
            layout.copyFrom(start);
            done = 0;
        }

        boolean isAllDone() {
            return done == (1 << gates.size) - 1;
        }

        private boolean isOpen(int g) {
            return (done >> g & 1) == 0 && (valueAt(ahead, g) & ~done) == 0;
        }

        private int farOf(int g) {
            return board.farOf(layout.placeOf(gates.firstOf(g)), layout.placeOf(gates.secondOf(g)));
        }

        /** Whether the gate could be done, and now is. */
        boolean doIfItCan(int g) {
            if (!isOpen(g) || gates.isOfTwo(g) && farOf(g) != 1) {
                return false;
            }
            done |= 1 << g;
            return true;
        }

        // one pass is enough: a gate waits for gates of lower numbers alone
        void doAllThatCan() {
            for (int g = 0; g < gates.size; g++) {
                doIfItCan(g);
            }
        }

        /** Bits of the gates, all of two lines once all that can is done, that wait for nearness alone. */
        int front() {
            int bits = 0;
            for (int g = 0; g < gates.size; g++) {
                if (isOpen(g)) {
                    bits |= 1 << g;
                }
            }
            return bits;
        }

        int farOfAll(int bits) {
            int far = 0;
            for (int g = 0; g < gates.size; g++) {
                if ((bits >> g & 1) != 0) {
                    far += farOf(g);
                }
            }
            return far;
        }

        int farthestOf(int bits) {
            int far = 0;
            for (int g = 0; g < gates.size; g++) {
                if ((bits >> g & 1) != 0) {
                    far = Math.max(far, farOf(g));
                }
            }
            return far;
        }

        void swap(int edge) {
            layout.exchange(board.lowOf(edge), board.highOf(edge));
        }
    }

    /** The route by the cheapest swaps. */
    private static final class Router {
        final Course course = new Course();
        final GateList steps = new GateList(MOST_GATES + MOST_SWAPS);
        final boolean[] areSwaps = new boolean[MOST_GATES + MOST_SWAPS];
        final int[] wear = new int[MOST_PLACES];
        int swaps;

        /** Whether all of a course just begun could be done; false: it is given up. */
        boolean run(int look) {
            steps.size = 0;
            swaps = 0;
            Arrays.fill(wear, 0);
            for (int turn = 0; turn <= MOST_SWAPS; turn++) {
                doAllThatCan();
                if (course.isAllDone()) {
                    return true;
                }
                int edge = cheapestEdge(look);
                if (edge == NONE || swaps == MOST_SWAPS) {
                    return false;
                }
                swap(edge);
            }
            return false;
        }

        boolean isSwap(int i) {
            return i >= 0 && i < areSwaps.length && areSwaps[i];
        }

        private void doAllThatCan() {
            for (int g = 0; g < course.gates.size; g++) {
                if (course.doIfItCan(g)) {
                    note(g);
                }
            }
        }

        private void note(int g) {
            GateList gates = course.gates;
            int second = gates.secondOf(g);
            if (gates.isOfTwo(g)) {
                second = course.layout.placeOf(second);
                Arrays.fill(wear, 0);
            }
            addStep(gates.kindOf(g), course.layout.placeOf(gates.firstOf(g)), second, false);
        }

        private void addStep(int kind, int first, int second, boolean isSwap) {
            if (steps.size >= 0 && steps.size < areSwaps.length) {
                areSwaps[steps.size] = isSwap;
            }
            steps.add(kind, first, second);
        }

        private void swap(int edge) {
            int low = course.board.lowOf(edge);
            int high = course.board.highOf(edge);
            addStep(W, low, high, true);
            course.swap(edge);
            wearOut(low);
            wearOut(high);
            swaps++;
        }

        private void wearOut(int p) {
            putAt(wear, p, valueAt(wear, p) + 1);
        }

        private int cheapestEdge(int look) {
            Board board = course.board;
            int front = course.front();
            int next = nextOnes(front, look);
            int forFront = 2 * Math.max(Integer.bitCount(next), 1);
            int forNext = Integer.bitCount(front);
            int held = placesOf(front);
            int least = BEYOND_ALL;
            int best = NONE;
            for (int e = 0; e < board.edges; e++) {
                int low = board.lowOf(e);
                int high = board.highOf(e);
                if ((held >> low & 1) == 0 && (held >> high & 1) == 0) {
                    continue;
                }
                course.swap(e);
                int cost = course.farOfAll(front) * forFront + course.farOfAll(next) * forNext;
                course.swap(e);
                cost *= 10 + Math.max(valueAt(wear, low), valueAt(wear, high));
                if (cost < least) {
                    least = cost;
                    best = e;
                }
            }
            return best;
        }

        private int nextOnes(int front, int look) {
            int bits = 0;
            int many = 0;
            for (int g = 0; g < course.gates.size && many < look; g++) {
                if (((front | course.done) >> g & 1) == 0 && course.gates.isOfTwo(g)) {
                    bits |= 1 << g;
                    many++;
                }
            }
            return bits;
        }

        private int placesOf(int front) {
            GateList gates = course.gates;
            int held = 0;
            for (int g = 0; g < gates.size; g++) {
                if ((front >> g & 1) != 0) {
                    held |= 1 << course.layout.placeOf(gates.firstOf(g));
                    held |= 1 << course.layout.placeOf(gates.secondOf(g));
                }
            }
            return held;
        }
    }

    /** The search for the fewest swaps. */
    private static final class Finder {
        private static final int SLOT_BITS = 11;

        final Course course = new Course();
        // what did not end, so that it is not tried twice: a layout, what was done, the swaps left
        final long[] failures = new long[1 << SLOT_BITS];

        /** Failures of another course tell nothing. */
        void forget() {
            Arrays.fill(failures, 0);
        }

        /** Whether all of the course can be done with so many swaps more (MOST_FEWEST at most). */
        private static boolean canEnd(Finder finder, int left) {
            if (left > MOST_FEWEST) {
                return false;
            }
            Course course = finder.course;
            course.doAllThatCan();
            if (course.isAllDone()) {
                return true;
            }
            // a swap brings two places nearer by one at most
            if (left <= 0 || course.farthestOf(course.front()) - 1 > left || finder.hasFailed(left)) {
                return false;
            }
            int done = course.done;
            for (int e = 0; e < course.board.edges; e++) {
                course.swap(e);
                if (canEnd(finder, left - 1)) {
                    return true;
                }
                course.swap(e);
                course.done = done;
            }
            finder.noteFailure(left);
            return false;
        }

        private long key() {
            return (long) course.layout.code() << MOST_GATES | course.done;
        }

        private static int slotOf(long key) {
            return (int) (key * 0x9E3779B97F4A7C15L >>> 64 - SLOT_BITS);
        }

        private boolean hasFailed(int left) {
            long key = key();
            int slot = slotOf(key);
            if (slot < 0 || slot >= failures.length) {
                return false;
            }
            return failures[slot] >>> 3 == key && (failures[slot] & 7) >= left;
        }

        private void noteFailure(int left) {
            long key = key();
            int slot = slotOf(key);
            if (slot < 0 || slot >= failures.length) {
                return;
            }
            // of two in one slot the one with more swaps left spares more
            if ((failures[slot] & 7) <= left) {
                failures[slot] = key << 3 | left;
            }
        }
    }
}
