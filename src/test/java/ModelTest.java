import java.lang.reflect.InvocationTargetException;
import java.lang.reflect.Method;
import java.util.ArrayList;
import java.util.Comparator;
import java.util.List;

/**
 * Makes the same calls on DrillPlanner and on Model, for many brigades, and compares the answers.
 * Arguments: the first seed and the number of seeds.
 */
public final class ModelTest {
    private static final String[] KINDS = {"pump", "ladder", "rescue"};
    private static final String[] SCRAPS = {";", ",", " ", "\n", "node", "at", "7", "0", "41", "00012", "12345", "pump",
        "ladder", "after", "from", "hose", "slot 20;", "hoses 3 dry 2 racks 1;", "abcdefg", "stations", "A", "\u00e9",
        "na", "sa", "ea", "da", "db", "engine", "road na nb 5;", "within", "lasts", "needs", "1 pump,"};
    private static final String[] COSTLY = {"bestFinish", "bestOrder", "bestFinishWithout", "bestFinishWith",
        "enoughRacks"};

    /** What later calls of an object answer is free. */
    private static final int MOST_CALLS = 512;

    private final Bench bench;
    private final List<Method> methods = new ArrayList<>();
    private long state;
    private DrillPlanner planner;
    private Model model;
    private String log;
    private int calls;
    /** Whether the brigades are such that most orders have a list schedule. */
    private boolean easy;

    private ModelTest(Bench bench) {
        this.bench = bench;
        for (Method method : Model.class.getDeclaredMethods()) {
            if ((method.getModifiers() & 1) != 0) {
                methods.add(method);
            }
        }
        methods.sort(Comparator.comparing(Method::getName));
    }

    public static void main(String[] args) throws Exception {
        Bench bench = new Bench();
        int first = args.length > 0 ? Integer.parseInt(args[0]) : 1;
        int seeds = args.length > 1 ? Integer.parseInt(args[1]) : 250;
        for (int seed = first; seed < first + seeds; seed++) {
            new ModelTest(bench).run(seed);
        }
        bench.close("ModelTest");
    }

    private void run(int seed) throws Exception {
        state = seed * 0x9E3779B97F4A7C15L;
        easy = below(2) == 0;
        log = "seed " + seed + ":";
        int costly = 0;
        begin();
        for (int i = 0; i < 4; i++) {
            load(broken(text()));
        }
        begin();
        load(broken(text()));
        load(text());
        for (int i = 0; i < 140; i++) {
            Method method = methods.get(below(methods.size()));
            if (List.of(COSTLY).contains(method.getName()) && costly++ >= 6) {
                continue;
            }
            if (method.getName().equals("appendInput")) {
                type(oneOf("na", " sb\n", "ec ", "da", "dz", "a b", "", "na;", "pump", "7", "nna"));
                call("find");
            } else if (below(3) == 0) {
                call("setStart", near(model.drills()), below(9) == 0 ? -1 : below(below(3) == 0 ? 24 : 6));
            } else if (!method.getName().equals("loadBrigade") || below(8) == 0) {
                call(method.getName(), arguments(method));
            }
        }
        look();
    }

    private void begin() {
        planner = new DrillPlanner();
        model = new Model();
        calls = 0;
        log = log + " new";
    }

    /** Compares what can be seen of the drills, of some violations and of some slots. */
    private void look() throws Exception {
        for (int drill = 0; drill < model.drills(); drill++) {
            for (String name : List.of("start", "drillState", "drillEngines", "drillBegin", "drillEnd", "drillBack")) {
                call(name, drill);
            }
        }
        for (int i = 0; i < 12; i++) {
            int index = near(model.violations());
            for (String name : List.of("violationCode", "violationSlot", "violationSubject")) {
                call(name, index);
            }
        }
        for (int i = 0; i < 24; i++) {
            int slot = below(3) == 0 ? near(48) : below(24);
            for (String name : List.of("availableAt", "uncoveredAt", "dryHoses", "wetHoses", "dryingHoses")) {
                call(name, slot);
            }
        }
    }

    private void load(String text) throws Exception {
        log = log + " load <" + text + ">";
        type(text);
        call("loadBrigade");
        for (String name : List.of("errorCode", "errorOffset", "nodes", "stations", "engines", "streets", "drills")) {
            call(name);
        }
    }

    private void type(String text) throws Exception {
        call("truncateInput", 0);
        for (int at = 0; at < text.length(); at += 20) {
            int[] words = Bench.words(text, at);
            call("appendInput", words[0], words[1], words[2], words[3], words[4]);
        }
        call("truncateInput", text.length());
    }

    private void call(String name, int... args) throws Exception {
        if (calls >= MOST_CALLS) {
            return;
        }
        calls++;
        Object[] values = new Object[args.length];
        Class<?>[] types = new Class<?>[args.length];
        StringBuilder shown = new StringBuilder(name);
        for (int i = 0; i < args.length; i++) {
            values[i] = args[i];
            types[i] = int.class;
            shown.append(' ').append(args[i]);
        }
        String got = outcome(planner, name, types, values);
        String want = outcome(model, name, types, values);
        if (!name.equals("appendInput")) {
            log = log + " " + shown;
        }
        if (!got.equals(want)) {
            bench.same(log, got, want);
        } else {
            bench.same(name, got, want);
        }
    }

    private static String outcome(Object target, String name, Class<?>[] types, Object[] values) throws Exception {
        Method method = target.getClass().getMethod(name, types);
        try {
            return String.valueOf(method.invoke(target, values));
        } catch (InvocationTargetException e) {
            return "throws." + e.getCause().getClass().getSimpleName();
        }
    }

    private int[] arguments(Method method) {
        int[] args = new int[method.getParameterCount()];
        for (int i = 0; i < args.length; i++) {
            args[i] = argument(method.getName(), i);
        }
        return args;
    }

    private int argument(String name, int place) {
        switch (name) {
            case "truncateInput":
                return below(30) - 3;
            case "travelMinutes":
                return near(model.nodes());
            case "travelSlots":
                return near(place == 0 ? model.engines() : model.drills());
            case "homeStation": case "engineKind": case "awaySlots": case "bestFinishWithout":
                return near(model.engines());
            case "coverStation":
                return place == 0 ? engineSet() : near(model.engines());
            case "nearestMinutes": case "coveringEngines":
                return place == 0 ? engineSet() : near(model.streets());
            case "uncovered": case "uncoveredWithoutMoves": case "weakestStreet":
                return engineSet();
            case "setStart":
                return place == 0 ? near(model.drills()) : below(27) - 2;
            case "violationCode": case "violationSlot": case "violationSubject":
                return near(model.violations());
            case "availableAt": case "uncoveredAt": case "dryHoses": case "wetHoses": case "dryingHoses":
                return near(48);
            case "schedule":
                return order();
            case "bestFinishWith":
                return place == 0 ? near(41) : near(14);
            default:
                return near(model.drills());
        }
    }

    private int order() {
        int order = 0;
        for (int i = below(model.drills() + 1); i > 0; i--) {
            int digit = below(model.drills()) + 1;
            if (String.valueOf(order).indexOf('0' + digit) < 0 || below(20) == 0) {
                order = order * 10 + digit;
            }
        }
        return below(12) == 0 ? below(100000) - 1000 : order;
    }

    private int engineSet() {
        if (below(20) == 0) {
            return oneOf(-1, 1 << model.engines(), Integer.MIN_VALUE, 1024);
        }
        return below(1 << model.engines()) | below(1 << model.engines());
    }

    /** Mostly an index below a count, now and then one that is out of range. */
    private int near(int count) {
        if (below(25) == 0) {
            return oneOf(-1, count, count + 1, Integer.MAX_VALUE, Integer.MIN_VALUE);
        }
        return count == 0 ? 0 : below(count);
    }

    private String text() {
        StringBuilder text = new StringBuilder();
        int nodes = 1 + below(12);
        int stations = 1 + below(6);
        int engines = easy ? 6 + below(5) : below(4) == 0 ? below(4) : 3 + below(8);
        int widest = easy ? oneOf(5, 12) : oneOf(5, 20, 60);
        if (below(2) == 0) {
            text.append("slot ").append(10 + below(51)).append(";");
        }
        for (int i = 0; i < nodes; i++) {
            text.append("node ").append(name('n', i)).append(';');
        }
        for (int i = 1, spare = 20; i < nodes; i++) {
            for (int j = below(14) == 0 ? 0 : 1 + below(2); j > 0 && spare > 0; j--, spare--) {
                text.append("road ").append(name('n', i)).append(' ').append(name('n', below(i))).append(' ')
                        .append(1 + below(widest)).append(';');
            }
        }
        for (int i = 0; i < stations; i++) {
            text.append("station ").append(name('s', i)).append(" at ").append(name('n', below(nodes))).append(";");
        }
        int spread = oneOf(stations, stations, Math.min(stations, 2));
        for (int i = 0; i < engines; i++) {
            text.append("engine ").append(name('e', i)).append(' ').append(KINDS[below(easy ? 1 + below(2) : 1 + below(3))]).append(" at ")
                    .append(name('s', below(spread))).append(";");
        }
        int streets = easy ? below(3) : below(3) == 0 ? below(13) : below(4);
        for (int i = 0; i < streets && text.length() < 700; i++) {
            text.append("street ").append(name('n', below(nodes))).append(" within ")
                    .append(!easy && below(3) == 0 ? below(121) : 60 + below(61))
                    .append(!easy && below(4) == 0 ? " pump;" : ";");
        }
        if (below(5) > 0) {
            text.append("hoses ").append(easy ? 12 + below(29) : below(41)).append(" dry ").append(1 + below(12)).append(" racks ")
                    .append(1 + below(12)).append(";\n");
        }
        int drills = easy ? 3 + below(3) : below(6);
        for (int i = 0; i < drills; i++) {
            String drill = drill(i, nodes);
            if (text.length() + drill.length() <= 1000) {
                text.append(drill);
            } else {
                break;
            }
        }
        return text.length() <= 1000 ? text.toString() : text.substring(0, text.lastIndexOf(";", 999) + 1);
    }

    private String drill(int number, int nodes) {
        StringBuilder text = new StringBuilder("drill ").append(name('d', number)).append(" at ");
        text.append(name('n', below(nodes))).append(" lasts ").append(1 + below(below(2) == 0 ? 3 : 8)).append(" needs ");
        text.append(1 + below(1 + below(3))).append(" pump");
        if (!easy && below(4) == 0) {
            text.append(", ").append(1 + below(2)).append(" ladder");
        }
        if (!easy && below(8) == 0) {
            text.append(",1 rescue");
        }
        if (below(2) == 0) {
            text.append(" hose ").append(below(below(3) == 0 ? 41 : 12));
        }
        String mark = " after ";
        for (int other = 0; other < number; other++) {
            if (below(5) == 0) {
                text.append(mark).append(name('d', other));
                mark = ",";
            }
        }
        if (below(3) == 0) {
            text.append(" from ").append(below(below(2) == 0 ? 24 : 6));
        }
        return text.append(";").toString();
    }

    private static String name(char sort, int number) {
        return "" + sort + (char) ('a' + number);
    }

    /** A text with a few places changed. */
    private String broken(String text) {
        StringBuilder broken = new StringBuilder(text);
        for (int i = below(3); i >= 0; i--) {
            int at = below(broken.length() + 1);
            int stop = Math.min(broken.length(), at + below(5) * below(3));
            if (below(6) == 0) {
                broken.setLength(at);
            } else if (below(3) == 0) {
                int from = below(broken.length() + 1);
                broken.insert(at, broken.substring(from, Math.min(broken.length(), from + below(40))));
            } else {
                broken.replace(at, stop, SCRAPS[below(SCRAPS.length)]);
            }
        }
        broken.setLength(Math.min(broken.length(), 1000));
        return broken.toString();
    }

    private int oneOf(int... values) {
        return values[below(values.length)];
    }

    private String oneOf(String... values) {
        return values[below(values.length)];
    }

    /** The next number of a fixed row, so that each run makes the same calls. */
    private int below(int bound) {
        state = state * 6364136223846793005L + 1442695040888963407L;
        return bound <= 0 ? 0 : (int) ((state >>> 33) % bound);
    }
}
