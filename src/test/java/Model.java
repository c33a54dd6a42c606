import java.util.ArrayList;
import java.util.HashMap;
import java.util.List;
import java.util.Map;

/**
 * The document once more, in the plainest and slowest words, to compare the class with: numbers are
 * held as they are (no power of R aside), gates commute if they are seen to, urgent gates are delayed
 * and looked at, the fewest swaps are sought in breadth.
 */
final class Model {
    int n = 2;
    List<int[]> gates = new ArrayList<>();
    int m = 2;
    List<int[]> edges = new ArrayList<>(List.of(new int[] {0, 1}));
    int[] layout = {0, 1};
    int x = 1;
    int[] times = {1, 1, 1, 3, 3, 6};
    List<Integer> tape = new ArrayList<>();
    Model kept;
    private int[][] fars = new int[5][5];

    private static final int NONE = -1;

    // ---- state

    private static Model copy(Model from) {
        Model to = new Model();
        to.n = from.n;
        to.gates = new ArrayList<>(from.gates);
        to.m = from.m;
        to.edges = new ArrayList<>(from.edges);
        to.layout = from.layout.clone();
        to.x = from.x;
        return to;
    }

    int keep() {
        kept = copy(this);
        return gates.size();
    }

    boolean undo() {
        if (kept == null) {
            return false;
        }
        Model back = copy(kept);
        n = back.n;
        gates = back.gates;
        m = back.m;
        fars = new int[5][5];
        edges = back.edges;
        layout = back.layout;
        x = back.x;
        return true;
    }

    private void layoutAsAtFirst() {
        layout = new int[n];
        for (int l = 0; l < n; l++) {
            layout[l] = l;
        }
    }

    int feed(int a, int b, int c, int d, int e) {
        if (tape.size() > 120) {
            return NONE;
        }
        for (int word : new int[] {a, b, c, d, e}) {
            tape.add(word >>> 24);
            tape.add(word >>> 16 & 255);
            tape.add(word >>> 8 & 255);
            tape.add(word & 255);
        }
        return tape.size();
    }

    boolean lines(int lines) {
        if (lines < 1 || lines > 4) {
            return false;
        }
        n = lines;
        gates = new ArrayList<>();
        layoutAsAtFirst();
        return true;
    }

    // ---- texts: what may stand at a place is told as a pattern, a sign for each place

    private String take(int count) {
        StringBuilder text = new StringBuilder();
        for (int i = 0; i < count; i++) {
            text.append((char) (int) tape.get(i));
        }
        tape.clear();
        return text.toString();
    }

    /** 0, or the fault of a place where one of the signs or a digit of from to below is due. */
    private static int fault(String text, int at, String signs, int from, int below) {
        if (at >= text.length()) {
            return -1000 - at;
        }
        char sign = text.charAt(at);
        if (signs.indexOf(sign) >= 0) {
            return 0;
        }
        if (below > 0 && sign >= '0' && sign <= '9') {
            return sign - '0' >= from && sign - '0' < below ? 0 : -3000 - at;
        }
        return -1000 - at;
    }

    int circuit(int count) {
        if (count < 0 || count > 120 || count > tape.size()) {
            return NONE;
        }
        String text = take(count);
        List<int[]> read = new ArrayList<>();
        int at = 0;
        while (count > 0) {
            if (read.size() == 30) {
                return -4000 - at;
            }
            int fault = fault(text, at, "rhxcdw", 0, 0);
            if (fault != 0) {
                return fault;
            }
            int kind = "rhxcdw".indexOf(text.charAt(at));
            String pattern = kind == 0 ? "K,L" : kind < 3 ? "L" : "L,M";
            int[] values = new int[3];
            int found = 0;
            for (char sign : pattern.toCharArray()) {
                at++;
                fault = sign == ',' ? fault(text, at, ",", 0, 0) : fault(text, at, "", 0, sign == 'K' ? 8 : n);
                if (fault != 0) {
                    return fault;
                }
                if (sign == 'M' && text.charAt(at) - '0' == values[0]) {
                    return -6000 - at;
                }
                if (sign != ',') {
                    values[found++] = text.charAt(at) - '0';
                }
            }
            read.add(kind == 0 ? new int[] {0, values[1], values[0]}
                : new int[] {kind, values[0], kind < 3 ? -1 : values[1]});
            at++;
            if (at == text.length()) {
                break;
            }
            fault = fault(text, at, ";", 0, 0);
            if (fault != 0) {
                return fault;
            }
            at++;
        }
        gates = read;
        return read.size();
    }

    int board(int count) {
        if (count < 1 || count > 60 || count > tape.size()) {
            return NONE;
        }
        String text = take(count);
        int fault = fault(text, 0, "", 2, 6);
        if (fault != 0) {
            return fault;
        }
        int places = text.charAt(0) - '0';
        List<int[]> read = new ArrayList<>();
        int at = 1;
        while (at < text.length()) {
            fault = fault(text, at, ";", 0, 0);
            if (fault != 0) {
                return fault;
            }
            if (read.size() == 10) {
                return -4000 - at - 1;
            }
            for (int i = 1; i <= 3; i++) {
                fault = i == 2 ? fault(text, at + i, "-", 0, 0) : fault(text, at + i, "", 0, places);
                if (fault != 0) {
                    return fault;
                }
            }
            int p = text.charAt(at + 1) - '0';
            int q = text.charAt(at + 3) - '0';
            boolean isTold = p == q;
            for (int[] edge : read) {
                isTold |= edge[0] == p && edge[1] == q || edge[0] == q && edge[1] == p;
            }
            if (isTold) {
                return -6000 - at - 3;
            }
            read.add(p < q ? new int[] {p, q} : new int[] {q, p});
            at += 4;
        }
        m = places;
        fars = new int[5][5];
        edges = read;
        layoutAsAtFirst();
        return read.size();
    }

    int check(int count) {
        if (count < 0 || count > 30 || count > tape.size()) {
            return -2;
        }
        int answer = NONE;
        for (int i = 0; i < count && answer == NONE; i++) {
            if (i >= gates.size() || gates.get(i)[0] != tape.get(i)) {
                answer = i;
            }
        }
        tape.clear();
        return answer;
    }

    // ---- gates

    int gate(int kind, int a, int b) {
        boolean isOne = kind == 0 ? b >= 0 && b <= 7 : kind < 3 ? b == -1 : b >= 0 && b < n && a != b;
        if (kind < 0 || kind > 5 || a < 0 || a >= n || !isOne) {
            return NONE;
        }
        if (gates.size() == 30) {
            return -3;
        }
        gates.add(new int[] {kind, a, b});
        return gates.size() - 1;
    }

    private int next() {
        x = (int) ((25173L * x + 13849L) % 65536L);
        return x;
    }

    int draws(int many) {
        if (many < 1 || many > 10) {
            return NONE;
        }
        if (gates.size() + many > 30) {
            return -3;
        }
        for (int i = 0; i < many; i++) {
            int kind = next() % (n == 1 ? 3 : 6);
            int line = next() % n;
            int b = kind == 0 ? next() % 8 : kind < 3 ? -1 : (line + 1 + next() % (n - 1)) % n;
            gates.add(new int[] {kind, line, b});
        }
        return gates.size();
    }

    boolean seed(int value) {
        if (value < 0 || value > 65535) {
            return false;
        }
        x = value;
        return true;
    }

    private static boolean touches(int[] gate, int line) {
        return gate[1] == line || gate[0] >= 3 && gate[2] == line;
    }

    private static boolean share(int[] g, int[] h) {
        return touches(h, g[1]) || g[0] >= 3 && touches(h, g[2]);
    }

    private static final Map<String, Boolean> COMMUTING = new HashMap<>();

    static boolean commute(int[] g, int[] h) {
        String key = g[0] + "," + g[1] + "," + g[2] + "/" + h[0] + "," + h[1] + "," + h[2];
        Boolean known = COMMUTING.get(key);
        if (known != null) {
            return known;
        }
        boolean isSame = true;
        for (int from = 0; from < 16; from++) {
            double[][] one = pass(List.of(g, h), 4, from);
            double[][] other = pass(List.of(h, g), 4, from);
            isSame &= java.util.Arrays.deepEquals(one, other);
        }
        COMMUTING.put(key, isSame);
        return isSame;
    }

    /** For each gate those ahead of it. */
    private long[] aheads(boolean isLoose) {
        long[] is = new long[gates.size()];
        for (int g = 0; g < is.length; g++) {
            for (int h = 0; h < g; h++) {
                if (share(gates.get(h), gates.get(g)) && !(isLoose && commute(gates.get(h), gates.get(g)))) {
                    is[g] |= 1L << h | is[h];
                }
            }
        }
        return is;
    }

    int ahead(int g, int what) {
        if (g < 0 || g >= gates.size() || what < 0 || what > 2) {
            return NONE;
        }
        int bits = 0;
        for (int h = 0; h < gates.size(); h++) {
            boolean is = what == 2 ? commute(gates.get(g), gates.get(h)) : (aheads(what == 1)[g] >> h & 1) != 0;
            bits |= is ? 1 << h : 0;
        }
        return bits;
    }

    /** When gates end; the late one begins 1 later. */
    private int[] ends(boolean isLoose, int[] kindTimes, int late) {
        long[] is = aheads(isLoose);
        int[] ends = new int[gates.size()];
        for (int g = 0; g < ends.length; g++) {
            int begin = 0;
            for (int h = 0; h < g; h++) {
                begin = (is[g] >> h & 1) != 0 ? Math.max(begin, ends[h]) : begin;
            }
            ends[g] = begin + kindTimes[gates.get(g)[0]] + (g == late ? 1 : 0);
        }
        return ends;
    }

    private static int greatest(int[] numbers) {
        int most = 0;
        for (int number : numbers) {
            most = Math.max(most, number);
        }
        return most;
    }

    private static final int[] ONES = {1, 1, 1, 1, 1, 1};

    int gateIs(int g, int what) {
        if (g < 0 || g >= gates.size() || what < 0 || what > 5) {
            return NONE;
        }
        int[] gate = gates.get(g);
        switch (what) {
            case 0: return gate[0];
            case 1: return gate[1];
            case 2: return gate[0] < 3 ? -2 : gate[2];
            case 3: return gate[0] == 0 ? gate[2] : -2;
            default: return ends(what == 5, ONES, -1)[g];
        }
    }

    int circuitIs(int what) {
        int many = 0;
        if (what >= 10 && what <= 15 || what >= 20 && what < 20 + n || what >= 30 && what < 30 + n || what == 3) {
            for (int[] gate : gates) {
                if (what == 3) {
                    many += gate[0] >= 3 ? 1 : 0;
                } else if (what < 20) {
                    many += gate[0] == what - 10 ? 1 : 0;
                } else if (what < 30) {
                    many += gate[0] == 0 && gate[1] == what - 20 ? gate[2] : 0;
                } else {
                    many += touches(gate, what - 30) ? 1 : 0;
                }
            }
            return what >= 20 && what < 30 ? many % 8 : many;
        }
        Model left = copy(this);
        switch (what) {
            case 0: return gates.size();
            case 1: return greatest(ends(false, ONES, -1));
            case 2: return greatest(ends(true, ONES, -1));
            case 4: return power(pass(gates, n, 0));
            case 5: left.shortest(); return left.gates.size();
            case 6: left.shortest(); return left.circuitIs(1);
            default: return NONE;
        }
    }

    // ---- amplitudes: four halves of halves, exact in doubles

    private static double[] timesU(double[] z) {
        return new double[] {0 - z[3], z[0], z[1], z[2]};
    }

    private static double[] timesRoot(double[] z) {
        double[] u = timesU(z);
        double[] uuu = timesU(timesU(u));
        double[] root = new double[4];
        for (int i = 0; i < 4; i++) {
            root[i] = u[i] - uuu[i];
        }
        return root;
    }

    static double[][] pass(List<int[]> gates, int n, int from) {
        double[][] state = new double[1 << n][4];
        state[from][0] = 1;
        for (int[] gate : gates) {
            double[][] out = new double[1 << n][4];
            for (int s = 0; s < 1 << n; s++) {
                int one = s >> gate[1] & 1;
                int two = gate[0] >= 3 ? s >> gate[2] & 1 : 0;
                int flipped = s ^ 1 << gate[1];
                double[] z = state[s].clone();
                switch (gate[0]) {
                    case 0:
                        for (int k = 0; k < gate[2] * one; k++) {
                            z = timesU(z);
                        }
                        add(out[s], z, 1);
                        break;
                    case 1:
                        // by R is times R, halved
                        z = timesRoot(z);
                        add(out[s & ~(1 << gate[1])], z, 0.5);
                        add(out[s | 1 << gate[1]], z, one == 1 ? -0.5 : 0.5);
                        break;
                    case 2:
                        add(out[flipped], z, 1);
                        break;
                    case 3:
                        add(out[one == 1 ? s ^ 1 << gate[2] : s], z, 1);
                        break;
                    case 4:
                        add(out[s], z, one == 1 && two == 1 ? -1 : 1);
                        break;
                    default:
                        add(out[one == two ? s : s ^ 1 << gate[1] ^ 1 << gate[2]], z, 1);
                        break;
                }
            }
            state = out;
        }
        return state;
    }

    private static void add(double[] to, double[] z, double by) {
        for (int i = 0; i < 4; i++) {
            to[i] += z[i] * by;
            to[i] = to[i] == 0 ? 0 : to[i];
        }
    }

    private static int power(double[][] state) {
        double[][] now = state.clone();
        for (int e = 0; ; e++) {
            boolean isWhole = true;
            for (double[] z : now) {
                for (double part : z) {
                    isWhole &= part == Math.rint(part);
                }
            }
            if (isWhole) {
                return e;
            }
            for (int s = 0; s < now.length; s++) {
                now[s] = timesRoot(now[s]);
            }
        }
    }

    private static double[] whole(double[] z, int e) {
        double[] now = z;
        for (int i = 0; i < e; i++) {
            now = timesRoot(now);
        }
        return now;
    }

    long amplitude(int from, int to, int what) {
        if (from < 0 || to < 0 || from >= 1 << n || to >= 1 << n || what < 0 || what > 4) {
            return -1000000000000000000L;
        }
        double[][] state = pass(gates, n, from);
        int e = power(state);
        return what == 4 ? e : (long) whole(state[to], e)[what];
    }

    long chance(int from, int to, int what) {
        if (from < 0 || to < 0 || from >= 1 << n || to >= 1 << n || what < 0 || what > 2) {
            return -1000000000000000000L;
        }
        double[][] state = pass(gates, n, from);
        int e = power(state);
        if (what == 2) {
            return e;
        }
        // times what it is mirrored: u becomes u to the power of 7, less u u u
        double[] z = whole(state[to], e);
        double[] mirrored = {z[0], -z[3], -z[2], -z[1]};
        double[] product = new double[4];
        double[] by = z;
        for (int i = 0; i < 4; i++) {
            for (int j = 0; j < 4; j++) {
                product[j] += by[j] * mirrored[i];
            }
            by = timesU(by);
        }
        if (product[2] != 0 || product[1] != -product[3]) {
            throw new IllegalStateException("a chance is not real");
        }
        return (long) (what == 0 ? product[0] : product[1]);
    }

    int spread(int from) {
        if (from < 0 || from >= 1 << n) {
            return NONE;
        }
        int many = 0;
        for (double[] z : pass(gates, n, from)) {
            many += z[0] != 0 || z[1] != 0 || z[2] != 0 || z[3] != 0 ? 1 : 0;
        }
        return many;
    }

    int same(int what) {
        if (what < 0 || what > 2) {
            return NONE;
        }
        if (kept == null || kept.n != n) {
            return -3;
        }
        if (what < 2) {
            int[] straight = {0, 1, 2, 3};
            for (int turn = 0; turn < (what == 0 ? 1 : 8); turn++) {
                if (isSame(turn, straight)) {
                    return what == 0 ? 1 : turn;
                }
            }
            return what == 0 ? 0 : -2;
        }
        List<int[]> orders = layouts(n, n);
        for (int i = 0; i < orders.size(); i++) {
            if (isSame(0, orders.get(i))) {
                return i;
            }
        }
        return -2;
    }

    private boolean isSame(int turn, int[] order) {
        for (int from = 0; from < 1 << n; from++) {
            double[][] first = pass(kept.gates, n, from);
            double[][] second = pass(gates, n, from);
            for (int s = 0; s < 1 << n; s++) {
                double[] z = first[s];
                for (int k = 0; k < turn; k++) {
                    z = timesU(z);
                }
                int t = 0;
                for (int l = 0; l < n; l++) {
                    t |= (s >> l & 1) << order[l];
                }
                for (int i = 0; i < 4; i++) {
                    if (z[i] != second[t][i]) {
                        return false;
                    }
                }
            }
        }
        return true;
    }

    // ---- shorter

    int shorter() {
        for (int g = 0; g < gates.size(); g++) {
            if (gates.get(g)[0] == 0 && gates.get(g)[2] == 0) {
                gates.remove(g);
                return 1;
            }
        }
        for (int i = 0; i < gates.size(); i++) {
            for (int j = i + 1; j < gates.size(); j++) {
                int[] g = gates.get(i);
                int[] h = gates.get(j);
                boolean isPair = g[0] == h[0] && g[1] == h[1] && (g[0] < 3 || g[2] == h[2])
                    || g[0] == h[0] && g[0] >= 4 && g[1] == h[2] && g[2] == h[1];
                for (int between = i + 1; between < j; between++) {
                    isPair = isPair && commute(gates.get(between), h);
                }
                if (isPair) {
                    gates.remove(j);
                    if (g[0] == 0) {
                        gates.set(i, new int[] {0, g[1], (g[2] + h[2]) % 8});
                        return 1;
                    }
                    gates.remove(i);
                    return 2;
                }
            }
        }
        return 0;
    }

    int shortest() {
        int fell = 0;
        int last;
        do {
            last = shorter();
            fell += last;
        } while (last > 0);
        return fell;
    }

    // ---- board and layouts

    int far(int p, int q) {
        if (p < 0 || q < 0 || p >= m || q >= m) {
            return NONE;
        }
        if (fars[p][q] == 0) {
            fars[p][q] = 1 + walk(p, q);
        }
        return fars[p][q] - 1;
    }

    private int walk(int p, int q) {
        int reached = 1 << p;
        for (int steps = 0; steps < 6; steps++) {
            if ((reached >> q & 1) != 0) {
                return steps;
            }
            int more = reached;
            for (int[] edge : edges) {
                more |= (reached >> edge[0] & 1) << edge[1] | (reached >> edge[1] & 1) << edge[0];
            }
            reached = more;
        }
        return 99;
    }

    int boardIs(int what) {
        int most = 0;
        int at = 0;
        for (int p = 0; p < m; p++) {
            for (int q = 0; q < m; q++) {
                most = Math.max(most, far(p, q));
            }
        }
        for (int[] edge : edges) {
            at += edge[0] == what - 30 || edge[1] == what - 30 ? 1 : 0;
        }
        if (what == 0) {
            return m;
        } else if (what == 1) {
            return edges.size();
        } else if (what == 2) {
            return most;
        } else if (what == 3) {
            return most == 99 ? 0 : 1;
        } else if (what >= 10 && what < 10 + edges.size()) {
            return edges.get(what - 10)[0];
        } else if (what >= 20 && what < 20 + edges.size()) {
            return edges.get(what - 20)[1];
        }
        return what >= 30 && what < 30 + m ? at : NONE;
    }

    boolean place(int line, int place) {
        if (line < 0 || line >= n || place < 0 || place >= m || n > m) {
            return false;
        }
        for (int l = 0; l < n; l++) {
            if (layout[l] == place) {
                layout[l] = layout[line];
            }
        }
        layout[line] = place;
        return true;
    }

    private int farOf(int[] where) {
        int far = 0;
        for (int[] gate : gates) {
            far += gate[0] >= 3 ? far(where[gate[1]], where[gate[2]]) - 1 : 0;
        }
        return far;
    }

    int layout(int what) {
        boolean isPlace = what >= 10 && what < 10 + m;
        if ((what < 0 || what >= n) && !isPlace && what != 20 && what != 21) {
            return NONE;
        }
        if (n > m) {
            return -3;
        }
        if (what == 20) {
            return farOf(layout) == 0 ? 1 : 0;
        }
        if (what == 21) {
            return farOf(layout);
        }
        if (!isPlace) {
            return layout[what];
        }
        for (int l = 0; l < n; l++) {
            if (layout[l] == what - 10) {
                return l;
            }
        }
        return -2;
    }

    private static List<int[]> layouts(int lines, int places) {
        List<int[]> all = new ArrayList<>();
        all.add(new int[0]);
        for (int l = 0; l < lines; l++) {
            List<int[]> longer = new ArrayList<>();
            for (int[] row : all) {
                for (int p = 0; p < places; p++) {
                    boolean isNew = true;
                    for (int other : row) {
                        isNew &= other != p;
                    }
                    if (isNew) {
                        int[] more = java.util.Arrays.copyOf(row, row.length + 1);
                        more[row.length] = p;
                        longer.add(more);
                    }
                }
            }
            all = longer;
        }
        return all;
    }

    private static int number(int[] row) {
        int number = 0;
        for (int place : row) {
            number = 10 * number + place;
        }
        return number;
    }

    int good(int what) {
        if (what < 0 || what > 3) {
            return NONE;
        }
        if (n > m) {
            return -3;
        }
        int many = 0;
        int first = -2;
        int least = Integer.MAX_VALUE;
        int nearest = -2;
        for (int[] row : layouts(n, m)) {
            int far = farOf(row);
            if (far == 0) {
                first = many == 0 ? number(row) : first;
                many++;
            }
            if (far < least) {
                least = far;
                nearest = number(row);
            }
        }
        return new int[] {many, first, least, nearest}[what];
    }

    // ---- the route

    private static boolean isLook(int look) {
        return look >= 0 && look <= 5 || look >= 10 && look <= 15;
    }

    private static int[] exchanged(int[] where, int[] edge) {
        int[] after = where.clone();
        for (int l = 0; l < where.length; l++) {
            after[l] = where[l] == edge[0] ? edge[1] : where[l] == edge[1] ? edge[0] : where[l];
        }
        return after;
    }

    private static boolean isOpen(int g, long done, long[] is) {
        return (is[g] & ~done) == 0 && (done >> g & 1) == 0;
    }

    private int lowestThatCan(long done, long[] is, int[] where) {
        for (int g = 0; g < gates.size(); g++) {
            int[] gate = gates.get(g);
            if (isOpen(g, done, is) && (gate[0] < 3 || far(where[gate[1]], where[gate[2]]) == 1)) {
                return g;
            }
        }
        return -1;
    }

    /** Steps (with a fourth number: whether a swap), and last of all the layout behind; null: given up. */
    private List<int[]> steps(int look) {
        long[] is = aheads(look >= 10);
        List<int[]> steps = new ArrayList<>();
        int[] where = layout.clone();
        int[] wear = new int[m];
        long done = 0;
        int swaps = 0;
        while (true) {
            int g = lowestThatCan(done, is, where);
            if (g >= 0) {
                int[] gate = gates.get(g);
                done |= 1L << g;
                steps.add(new int[] {gate[0], where[gate[1]], gate[0] >= 3 ? where[gate[2]] : gate[2], 0});
                wear = gate[0] >= 3 ? new int[m] : wear;
                continue;
            }
            if (done == (1L << gates.size()) - 1) {
                steps.add(where);
                return steps;
            }
            List<int[]> front = new ArrayList<>();
            List<int[]> next = new ArrayList<>();
            for (int i = 0; i < gates.size(); i++) {
                if (isOpen(i, done, is)) {
                    front.add(gates.get(i));
                } else if ((done >> i & 1) == 0 && gates.get(i)[0] >= 3 && next.size() < look % 10) {
                    next.add(gates.get(i));
                }
            }
            int[] best = null;
            long least = 0;
            for (int[] edge : edges) {
                boolean isHeld = false;
                for (int[] gate : front) {
                    for (int place : edge) {
                        isHeld |= where[gate[1]] == place || where[gate[2]] == place;
                    }
                }
                int[] after = exchanged(where, edge);
                long cost = (together(front, after) * 2L * Math.max(1, next.size())
                    + together(next, after) * (long) front.size()) * (10 + Math.max(wear[edge[0]], wear[edge[1]]));
                if (isHeld && (best == null || cost < least)) {
                    best = edge;
                    least = cost;
                }
            }
            if (best == null || swaps == 40) {
                return null;
            }
            swaps++;
            where = exchanged(where, best);
            wear[best[0]]++;
            wear[best[1]]++;
            steps.add(new int[] {5, best[0], best[1], 1});
        }
    }

    private int together(List<int[]> some, int[] where) {
        int far = 0;
        for (int[] gate : some) {
            far += far(where[gate[1]], where[gate[2]]);
        }
        return far;
    }

    private static int swapsOf(List<int[]> steps) {
        int swaps = 0;
        for (int i = 0; i < steps.size() - 1; i++) {
            swaps += steps.get(i)[3];
        }
        return swaps;
    }

    private static int lasting(List<int[]> steps, int[] kindTimes) {
        int[] ends = new int[5];
        int last = 0;
        for (int i = 0; i < steps.size() - 1; i++) {
            int[] step = steps.get(i);
            int second = step[0] >= 3 ? step[2] : step[1];
            int end = Math.max(ends[step[1]], ends[second]) + kindTimes[step[0]];
            ends[step[1]] = end;
            ends[second] = end;
            last = Math.max(last, end);
        }
        return last;
    }

    int route(int look, int what) {
        if (!isLook(look) || (what < 0 || what > 2) && (what < 10 || what >= 10 + n)) {
            return NONE;
        }
        if (n > m) {
            return -3;
        }
        List<int[]> steps = steps(look);
        if (steps == null) {
            return -6;
        }
        switch (what) {
            case 0: return swapsOf(steps);
            case 1: return steps.size() - 1;
            case 2: return lasting(steps, ONES);
            default: return steps.get(steps.size() - 1)[what - 10];
        }
    }

    int routed(int look, int i, int what) {
        if (!isLook(look) || i < 0 || what < 0 || what > 4) {
            return NONE;
        }
        if (n > m) {
            return -3;
        }
        List<int[]> steps = steps(look);
        if (steps == null) {
            return -6;
        }
        if (i >= steps.size() - 1) {
            return -4;
        }
        int[] step = steps.get(i);
        switch (what) {
            case 0: return step[0];
            case 1: return step[1];
            case 2: return step[0] >= 3 ? step[2] : -2;
            case 3: return step[0] == 0 ? step[2] : -2;
            default: return step[3];
        }
    }

    int bestLook(int what) {
        if (what < 0 || what > 3) {
            return NONE;
        }
        if (n > m) {
            return -3;
        }
        int best = -2;
        int least = -2;
        for (int look = what / 2 * 10; look < what / 2 * 10 + 6; look++) {
            List<int[]> steps = steps(look);
            if (steps != null && (best < 0 || swapsOf(steps) < least)) {
                best = look;
                least = swapsOf(steps);
            }
        }
        return what % 2 == 0 ? best : least;
    }

    // ---- the fewest swaps, in breadth

    private long doneFrom(long done, long[] is, int[] where) {
        long now = done;
        for (int g = lowestThatCan(now, is, where); g >= 0; g = lowestThatCan(now, is, where)) {
            now |= 1L << g;
        }
        return now;
    }

    private int fewest(int[] from, boolean isLoose) {
        long[] is = aheads(isLoose);
        long all = (1L << gates.size()) - 1;
        Map<Long, int[]> level = new HashMap<>();
        level.put(doneFrom(0, is, from) * 10000 + number(from), from);
        Map<Long, int[]> seen = new HashMap<>(level);
        for (int swaps = 0; swaps <= 6; swaps++) {
            Map<Long, int[]> deeper = new HashMap<>();
            for (Map.Entry<Long, int[]> entry : level.entrySet()) {
                long done = entry.getKey() / 10000;
                if (done == all) {
                    return swaps;
                }
                for (int[] edge : edges) {
                    int[] after = exchanged(entry.getValue(), edge);
                    long key = doneFrom(done, is, after) * 10000 + number(after);
                    if (seen.put(key, after) == null) {
                        deeper.put(key, after);
                    }
                }
            }
            level = deeper;
        }
        return -2;
    }

    int fewest() {
        return n > m ? -3 : fewest(layout, false);
    }

    int fewestOf(int what) {
        if (what < 0 || what > 4) {
            return NONE;
        }
        if (n > m) {
            return -3;
        }
        if (what == 0) {
            return fewest(layout, true);
        }
        int least = -2;
        int first = -2;
        for (int[] row : layouts(n, m)) {
            int swaps = fewest(row, what >= 3);
            if (swaps >= 0 && (least < 0 || swaps < least)) {
                least = swaps;
                first = number(row);
            }
        }
        return what % 2 == 1 ? least : first;
    }

    // ---- times

    boolean spend(int kind, int time) {
        if (kind < 0 || kind > 5 || time < 1 || time > 20) {
            return false;
        }
        times[kind] = time;
        return true;
    }

    int lasts(int what, int look) {
        if (what == 0 || what == 1) {
            return greatest(ends(what == 1, times, -1));
        }
        if (what != 2 || !isLook(look)) {
            return NONE;
        }
        if (n > m) {
            return -3;
        }
        List<int[]> steps = steps(look);
        return steps == null ? -6 : lasting(steps, times);
    }

    int urgent(int what) {
        if (what != 0 && what != 1) {
            return NONE;
        }
        int bits = 0;
        for (int g = 0; g < gates.size(); g++) {
            if (greatest(ends(what == 1, times, g)) > greatest(ends(what == 1, times, -1))) {
                bits |= 1 << g;
            }
        }
        return bits;
    }

    int count(int what) {
        int[] all = {gates.size(), n, tape.size(), x};
        return what >= 0 && what < 4 ? all[what] : NONE;
    }
}
