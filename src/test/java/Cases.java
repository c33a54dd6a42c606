/** What the test programs share: naming of cases, comparing, putting a text on the tape. */
final class Cases {
    private String name = "";
    private boolean isRight = true;
    private boolean isOpen = false;
    private int failed = 0;

    /** Begins a case and ends the one before. */
    void begin(String caseName) {
        close();
        // the text that is read may hold any byte, the answers of a test may not
        name = caseName.replaceAll("[^ -~]", "?");
        isRight = true;
        isOpen = true;
    }

    void due(String call, long got, long want) {
        if (got != want) {
            isRight = false;
            System.out.println("  " + name + ": " + call + " answered " + got + ", due is " + want);
        }
    }

    void due(String call, boolean got, boolean want) {
        due(call, got ? 1 : 0, want ? 1 : 0);
    }

    void due(String call, String got, String want) {
        if (!got.equals(want)) {
            isRight = false;
            System.out.println("  " + name + ": " + call + " answered " + got + ", due is " + want);
        }
    }

    /** A case of one call. */
    void is(String caseName, long got, long want) {
        begin(caseName);
        due("it", got, want);
    }

    void is(String caseName, boolean got, boolean want) {
        begin(caseName);
        due("it", got, want);
    }

    void is(String caseName, String got, String want) {
        begin(caseName);
        due("it", got, want);
    }

    private void close() {
        if (isOpen) {
            System.out.println((isRight ? "ok " : "FAILED ") + name);
            failed += isRight ? 0 : 1;
        }
        isOpen = false;
    }

    /** Ends the program: .ci/run counts the lines that begin with ok and FAILED. */
    void end() {
        close();
        if (failed > 0) {
            System.exit(1);
        }
    }

    /** The text and what is needed to fill the last feed with signs that stand in no text. */
    static void type(GatesOnBoard x, String text) {
        StringBuilder all = new StringBuilder(text);
        while (all.length() % 20 != 0) {
            all.append('?');
        }
        for (int i = 0; i < all.length(); i += 20) {
            x.feed(four(all, i), four(all, i + 4), four(all, i + 8), four(all, i + 12), four(all, i + 16));
        }
    }

    static int four(CharSequence text, int at) {
        return text.charAt(at) << 24 | text.charAt(at + 1) << 16 | text.charAt(at + 2) << 8 | text.charAt(at + 3);
    }

    static int circuit(GatesOnBoard x, String text) {
        type(x, text);
        return x.circuit(text.length());
    }

    static int board(GatesOnBoard x, String text) {
        type(x, text);
        return x.board(text.length());
    }

    static GatesOnBoard with(int lines, String board, String circuit) {
        GatesOnBoard x = new GatesOnBoard();
        x.lines(lines);
        board(x, board);
        circuit(x, circuit);
        return x;
    }

    /** Gates by three digits each: kind, a, b. */
    static void gates(GatesOnBoard x, String codes) {
        x.circuit(0);
        for (int i = 0; i < codes.length(); i += 4) {
            x.gate(codes.charAt(i) - '0', codes.charAt(i + 1) - '0', codes.charAt(i + 2) - '0');
        }
    }

    static String many(String part, int times) {
        StringBuilder all = new StringBuilder();
        for (int i = 0; i < times; i++) {
            all.append(i > 0 ? ";" : "").append(part);
        }
        return all.toString();
    }

    /** The gates as they would be typed. */
    static String told(GatesOnBoard x) {
        StringBuilder all = new StringBuilder();
        for (int g = 0; g < x.count(0); g++) {
            all.append(g > 0 ? ";" : "");
            put(all, x.gateIs(g, 0), x.gateIs(g, 1), x.gateIs(g, 2), x.gateIs(g, 3));
        }
        return all.toString();
    }

    /** The routed gates as they would be typed, a swap by its edge; or the refusal. */
    static String routed(GatesOnBoard x, int look) {
        int size = x.route(look, 1);
        StringBuilder all = new StringBuilder(size < 0 ? "" + size : "");
        for (int i = 0; i < size; i++) {
            all.append(i > 0 ? " " : "");
            if (x.routed(look, i, 4) == 1) {
                all.append(x.routed(look, i, 1)).append('-').append(x.routed(look, i, 2));
            } else {
                put(all, x.routed(look, i, 0), x.routed(look, i, 1), x.routed(look, i, 2), x.routed(look, i, 3));
            }
        }
        return all.toString();
    }

    private static void put(StringBuilder all, int kind, int a, int b, int k) {
        all.append(kind >= 0 && kind < 6 ? "rhxcdw".charAt(kind) : '?');
        all.append(k == -2 ? "" : k + ",").append(a).append(b == -2 ? "" : "," + b);
    }
}
