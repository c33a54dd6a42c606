import com.sun.management.ThreadMXBean;
import java.io.IOException;
import java.lang.management.ManagementFactory;
import java.lang.reflect.Constructor;
import java.lang.reflect.Field;
import java.lang.reflect.Method;
import java.lang.reflect.Modifier;
import java.nio.file.Files;
import java.nio.file.Path;
import java.util.ArrayList;
import java.util.List;
import java.util.Set;
import java.util.TreeSet;
import java.util.regex.Matcher;
import java.util.regex.Pattern;

/** The face of the class, and the rules of LANGUAGE.md that can be seen without much ado. */
public final class FaceTests {
    private static final String[] FACE = {
        "int feed(int,int,int,int,int)", "boolean lines(int)", "int circuit(int)", "int board(int)",
        "int gate(int,int,int)", "int draws(int)", "boolean place(int,int)", "int gateIs(int,int)",
        "int ahead(int,int)", "int circuitIs(int)", "long amplitude(int,int,int)", "long chance(int,int,int)",
        "int spread(int)", "int shorter()", "int shortest()", "int same(int)", "int boardIs(int)",
        "int far(int,int)", "int layout(int)", "int good(int)", "int route(int,int)", "int routed(int,int,int)",
        "int fewest()", "int fewestOf(int)", "boolean spend(int,int)", "int lasts(int,int)", "int urgent(int)",
        "int bestLook(int)", "boolean seed(int)", "int keep()", "boolean undo()", "int check(int)", "int count(int)"};

    private static final Pattern LIBRARY = Pattern.compile("\\b(Arrays|Math|Integer|Long|System|List)\\.\\w+");
    private static final Set<String> LISTED = Set.of("Arrays.copyOf", "Arrays.copyOfRange", "Arrays.fill",
        "System.arraycopy", "Math.max", "Math.min", "Math.abs", "Integer.bitCount", "List.of");

    private FaceTests() {
    }

    private static String told(Method method) {
        StringBuilder text = new StringBuilder();
        text.append(method.getReturnType()).append(' ').append(method.getName()).append('(');
        String between = "";
        for (Class<?> parameter : method.getParameterTypes()) {
            text.append(between).append(parameter);
            between = ",";
        }
        return text.append(')').toString();
    }

    private static void theFace(Cases cases) {
        cases.begin("face: as the document has it, and no more");
        TreeSet<String> open = new TreeSet<>();
        TreeSet<String> names = new TreeSet<>();
        for (Method method : GatesOnBoard.class.getDeclaredMethods()) {
            if (!Modifier.isPrivate(method.getModifiers())) {
                open.add(told(method));
                names.add(method.getName());
            }
        }
        cases.due("methods " + open, open.equals(new TreeSet<>(List.of(FACE))), true);
        for (Field field : GatesOnBoard.class.getDeclaredFields()) {
            boolean isOpen = !Modifier.isPrivate(field.getModifiers());
            cases.due("field " + field.getName(), isOpen, field.getName().equals("NONE"));
        }
        Constructor<?>[] constructors = GatesOnBoard.class.getDeclaredConstructors();
        cases.due("constructors", constructors.length, 1);
        cases.due("final", Modifier.isFinal(GatesOnBoard.class.getModifiers()), true);
        List<Class<?>> all = new ArrayList<>(List.of(GatesOnBoard.class.getDeclaredClasses()));
        cases.due("classes", all.size() < 12, true);
        for (Class<?> inner : all) {
            cases.due("static " + inner, Modifier.isStatic(inner.getModifiers()), true);
            cases.due("not public " + inner, Modifier.isPublic(inner.getModifiers()), false);
        }
        all.add(GatesOnBoard.class);
        for (Class<?> each : all) {
            int fields = 0;
            for (Field field : each.getDeclaredFields()) {
                fields += Modifier.isStatic(field.getModifiers()) ? 0 : 1;
                cases.due("static is final: " + field, isFinalIfStatic(field), true);
            }
            cases.due("fields of " + each, fields <= 20, true);
            for (Method method : each.getDeclaredMethods()) {
                boolean isPrivate = each != GatesOnBoard.class || Modifier.isPrivate(method.getModifiers());
                cases.due("name " + method, isPrivate && names.contains(method.getName()), false);
                cases.due("parameters " + method, method.getParameterCount() <= 7, true);
            }
        }
    }

    private static boolean isFinalIfStatic(Field field) {
        return !Modifier.isStatic(field.getModifiers()) || Modifier.isFinal(field.getModifiers());
    }

    private static void theText(Cases cases) throws IOException {
        cases.begin("language: no forbidden words, short methods");
        List<String> rows = Files.readAllLines(Path.of("src/main/java/GatesOnBoard.java"));
        int begun = 0;
        String end = "none";
        for (int i = 0; i < rows.size(); i++) {
            String row = rows.get(i);
            String code = row.replaceAll("//.*|/\\*.*|^ *\\*.*", "");
            String place = "row " + (i + 1) + ": " + row;
            boolean isForbidden = code.matches(".*\\b(throws?|try|catch|synchronized|assert|\\w+Exact)\\b.*")
                || code.contains("->") || code.contains("::");
            cases.due(place, isForbidden, false);
            cases.due(place, code.startsWith("package"), false);
            cases.due(place, code.startsWith("import") && !code.equals("import java.util.Arrays;"), false);
            Matcher call = LIBRARY.matcher(code);
            while (call.find()) {
                cases.due(place + ": " + call.group(), LISTED.contains(call.group()), true);
            }
            for (int at = 0; at < row.length(); at++) {
                cases.due(place, row.charAt(at) < 128, true);
            }
            if (code.matches("( {4}| {8})\\w.*\\) \\{")) {
                begun = i;
                end = code.replaceAll("\\S.*", "") + "}";
            }
            cases.due("length to " + place, row.equals(end) && i - begun > 60, false);
            end = row.equals(end) ? "none" : end;
        }
    }

    /** All calls of a run live in one room: what is made once is used again. */
    private static void theRoom(Cases cases) {
        cases.begin("room: calls make nothing");
        ThreadMXBean threads = (ThreadMXBean) ManagementFactory.getThreadMXBean();
        long[] made = new long[3];
        for (int round = 0; round < made.length; round++) {
            GatesOnBoard x = Cases.with(4, "5;0-1;1-2;2-3;3-4;4-0", "h0;c0,2;w1,3;r1,0;r7,0;d0,1;x3");
            long before = threads.getCurrentThreadAllocatedBytes();
            callAll(x);
            made[round] = threads.getCurrentThreadAllocatedBytes() - before;
        }
        cases.due("bytes made", made[made.length - 1] < 100, true);
    }

    private static void callAll(GatesOnBoard x) {
        for (int what = 0; what < 30; what++) {
            x.circuitIs(what);
            x.boardIs(what);
            x.layout(what);
            x.good(what);
            x.gateIs(1, what);
            x.ahead(1, what);
            x.amplitude(1, 2, what);
            x.chance(1, 2, what);
            x.spread(what);
            x.route(1, what);
            x.routed(12, what, 1);
            x.bestLook(what);
            x.fewestOf(what);
            x.lasts(what, 1);
            x.urgent(what);
            x.same(what);
        }
        x.keep();
        x.fewest();
        x.shorter();
        x.shortest();
        x.draws(3);
        x.feed(0x333B302D, 0x31303030, 0, 0, 0);
        x.board(5);
        x.feed(0x68303B68, 0x31303030, 0, 0, 0);
        x.circuit(5);
        x.check(0);
        x.undo();
    }

    public static void main(String[] args) throws IOException {
        Cases cases = new Cases();
        theFace(cases);
        theText(cases);
        theRoom(cases);
        cases.end();
    }
}
