import java.util.ArrayList;
import java.util.Arrays;
import java.util.HashMap;
import java.util.List;
import java.util.Map;
import java.util.TreeSet;
import java.util.function.IntPredicate;

/**
 * A second reading of the document, slow and without any short cut, that ModelTest holds DrillPlanner against.
 * It has the face of DrillPlanner, so that one call can be made on both.
 */
public final class Model {
    private static final List<String> RESERVED = List.of("slot", "node", "road", "station", "engine", "street",
            "hoses", "drill", "at", "within", "dry", "racks", "lasts", "needs", "hose", "after", "from", "pump",
            "ladder", "rescue");
    private static final List<String> KIND_WORDS = List.of("pump", "ladder", "rescue");

    private static final class Refused extends RuntimeException {
        private static final long serialVersionUID = 1L;
        final int code;
        final int offset;

        Refused(int code, int offset) {
            super(null, null, false, false);
            this.code = code;
            this.offset = offset;
        }
    }

    private record Road(int from, int to, int minutes) { }

    private record Engine(int kind, int home) { }

    private record Street(int node, int limit, int kind) { }

    private static final class Drill {
        int node;
        int lasts;
        final Map<Integer, Integer> needs = new HashMap<>();
        int hoses;
        final List<Integer> after = new ArrayList<>();
        int from;
    }

    private static final class Data {
        int slot = 30;
        int lengths;
        int dry = 1;
        int racks = 1;
        int nodes;
        final Map<String, Integer> names = new HashMap<>();
        final List<Road> roads = new ArrayList<>();
        final List<Integer> stations = new ArrayList<>();
        final List<Engine> engines = new ArrayList<>();
        final List<Street> streets = new ArrayList<>();
        final List<Drill> drills = new ArrayList<>();
        final Map<Integer, Integer> open = new HashMap<>();
    }

    /** A parser that looks at the text only where it stands. */
    private static final class Parser {
        final String text;
        final Data data = new Data();
        int at;
        int start;
        String token;
        boolean slot;
        boolean hoses;

        Parser(String text) {
            this.text = text;
            next();
        }

        void next() {
            while (at < text.length() && (text.charAt(at) == ' ' || text.charAt(at) == '\n')) {
                at++;
            }
            start = at;
            if (at == text.length()) {
                token = "";
                return;
            }
            char first = text.charAt(at);
            IntPredicate run = first >= 'a' && first <= 'z' ? c -> c >= 'a' && c <= 'z'
                    : first >= '0' && first <= '9' ? c -> c >= '0' && c <= '9' : c -> false;
            at++;
            while (at < text.length() && run.test(text.charAt(at))) {
                at++;
            }
            token = text.substring(start, at);
        }

        Refused refuse(int code) {
            return new Refused(code, start);
        }

        void word(String wanted) {
            if (!token.equals(wanted)) {
                throw refuse(1);
            }
            next();
        }

        boolean has(String wanted) {
            if (token.equals(wanted)) {
                next();
                return true;
            }
            return false;
        }

        int number(int low, int high) {
            if (!token.matches("[0-9]{1,4}")) {
                throw refuse(1);
            }
            int value = Integer.parseInt(token);
            if (value < low || value > high) {
                throw refuse(2);
            }
            next();
            return value;
        }

        String name() {
            if (!token.matches("[a-z]{1,6}") || RESERVED.contains(token)) {
                throw refuse(1);
            }
            return token;
        }

        String newName() {
            String name = name();
            if (data.names.containsKey(name)) {
                throw refuse(3);
            }
            next();
            return name;
        }

        int object(int sort, List<Integer> forbidden) {
            Integer found = data.names.get(name());
            if (found == null || found / 100 != sort || forbidden.contains(found % 100)) {
                throw refuse(3);
            }
            next();
            return found % 100;
        }

        int kind() {
            int kind = KIND_WORDS.indexOf(token);
            if (kind < 0) {
                throw refuse(1);
            }
            next();
            return kind;
        }

        void limit(boolean full) {
            if (full) {
                throw refuse(4);
            }
            next();
        }

        Data parse() {
            while (!token.isEmpty()) {
                statement();
                word(";");
            }
            return data;
        }

        void statement() {
            switch (token) {
                case "slot" -> {
                    limit(slot);
                    data.slot = number(10, 60);
                    slot = true;
                }
                case "node" -> {
                    limit(data.nodes == 12);
                    data.names.put(newName(), data.nodes++);
                }
                case "road" -> {
                    limit(data.roads.size() == 20);
                    int from = object(0, List.of());
                    int to = object(0, List.of(from));
                    data.roads.add(new Road(from, to, number(1, 60)));
                }
                case "station" -> {
                    limit(data.stations.size() == 6);
                    data.names.put(newName(), 100 + data.stations.size());
                    word("at");
                    data.stations.add(object(0, List.of()));
                }
                case "engine" -> {
                    limit(data.engines.size() == 10);
                    data.names.put(newName(), 200 + data.engines.size());
                    int kind = kind();
                    word("at");
                    data.engines.add(new Engine(kind, object(1, List.of())));
                }
                case "street" -> {
                    limit(data.streets.size() == 12);
                    int node = object(0, List.of());
                    word("within");
                    int minutes = number(0, 120);
                    data.streets.add(new Street(node, minutes, KIND_WORDS.contains(token) ? kind() : -1));
                }
                case "hoses" -> {
                    limit(hoses);
                    data.lengths = number(0, 40);
                    word("dry");
                    data.dry = number(1, 12);
                    word("racks");
                    data.racks = number(1, 12);
                    hoses = true;
                }
                case "drill" -> drill();
                default -> throw refuse(1);
            }
        }

        void drill() {
            limit(data.drills.size() == 5);
            Drill drill = new Drill();
            String name = newName();
            word("at");
            drill.node = objectNotNamed(name, 0, List.of());
            word("lasts");
            drill.lasts = number(1, 8);
            word("needs");
            do {
                int many = number(1, 4);
                if (KIND_WORDS.contains(token) && drill.needs.containsKey(KIND_WORDS.indexOf(token))) {
                    throw refuse(3);
                }
                drill.needs.put(kind(), many);
            } while (has(","));
            if (has("hose")) {
                drill.hoses = number(0, 40);
            }
            if (has("after")) {
                do {
                    drill.after.add(objectNotNamed(name, 3, drill.after));
                } while (has(","));
            }
            if (has("from")) {
                drill.from = number(0, 23);
            }
            data.names.put(name, 300 + data.drills.size());
            data.drills.add(drill);
        }

        int objectNotNamed(String own, int sort, List<Integer> forbidden) {
            if (token.equals(own)) {
                throw refuse(3);
            }
            return object(sort, forbidden);
        }
    }

    /** One timetable, worked out from the starts drill by drill. */
    private final class Table {
        final int[] starts;
        final int staff;
        final int lengths;
        final int racks;
        final int[] state;
        final int[] engines;
        final int[] begin;
        final int[] end;
        final List<int[]> absences = new ArrayList<>();
        final List<int[]> uses = new ArrayList<>();
        final List<int[]> violations = new ArrayList<>();

        Table(int[] starts, int staff, int lengths, int racks) {
            this.starts = starts;
            this.staff = staff;
            this.lengths = lengths;
            this.racks = racks;
            int n = starts.length;
            state = new int[n];
            engines = new int[n];
            begin = new int[n];
            end = new int[n];
            Arrays.fill(begin, -1);
            Arrays.fill(end, -1);
            List<Integer> order = new ArrayList<>();
            for (int d = 0; d < n; d++) {
                if (starts[d] >= 0) {
                    order.add(d);
                }
            }
            order.sort((x, y) -> starts[x] != starts[y] ? starts[x] - starts[y] : x - y);
            for (int d : order) {
                process(d);
            }
            for (int slot = 0; slot < 48; slot++) {
                int open = openStreets(available(slot));
                if (open != 0) {
                    violations.add(new int[] {slot, 5, Integer.numberOfTrailingZeros(open)});
                }
            }
            violations.sort((x, y) -> x[0] != y[0] ? x[0] - y[0] : x[1] != y[1] ? x[1] - y[1] : x[2] - y[2]);
        }

        void process(int d) {
            Drill drill = data.drills.get(d);
            int start = starts[d];
            int code = 0;
            if (start < drill.from) {
                code = 1;
            }
            for (int other : drill.after) {
                if (code == 0 && (state[other] != 1 || end[other] > start)) {
                    code = 2;
                }
            }
            int set = code == 0 ? choice(drill, start) : 0;
            if (code == 0 && set < 0) {
                code = 3;
            }
            if (code == 0 && hoses(start)[0] < drill.hoses) {
                code = 4;
            }
            if (code != 0) {
                state[d] = -code;
                violations.add(new int[] {start, code, d});
                return;
            }
            state[d] = 1;
            engines[d] = set;
            begin[d] = start;
            for (int e = 0; e < data.engines.size(); e++) {
                if ((set >> e & 1) != 0) {
                    begin[d] = Math.max(begin[d], start + slots(e, drill.node));
                }
            }
            end[d] = begin[d] + drill.lasts;
            for (int e = 0; e < data.engines.size(); e++) {
                if ((set >> e & 1) != 0) {
                    absences.add(new int[] {e, start, end[d] + slots(e, drill.node), d});
                }
            }
            uses.add(new int[] {start, end[d], drill.hoses});
        }

        int choice(Drill drill, int start) {
            int set = 0;
            for (int kind : drill.needs.keySet()) {
                List<Integer> near = new ArrayList<>();
                for (int e = 0; e < data.engines.size(); e++) {
                    int slots = slots(e, drill.node);
                    if ((available(start) >> e & 1) != 0 && data.engines.get(e).kind == kind && slots >= 0 && slots <= 6) {
                        near.add(e);
                    }
                }
                near.sort((x, y) -> way(x, drill.node) != way(y, drill.node)
                        ? way(x, drill.node) - way(y, drill.node) : x - y);
                if (near.size() < drill.needs.get(kind)) {
                    return -1;
                }
                for (int e : near.subList(0, drill.needs.get(kind))) {
                    set |= 1 << e;
                }
            }
            return set;
        }

        int available(int slot) {
            int set = staff;
            for (int[] absence : absences) {
                if (absence[1] <= slot && slot < absence[2]) {
                    set &= ~(1 << absence[0]);
                }
            }
            return set;
        }

        /** Dry, wet and drying lengths in a slot; each length goes its own way through the slots. */
        int[] hoses(int slot) {
            // 0 dry, -1 wet, 1000 + t used until t, t drying until t
            int[] length = new int[lengths];
            for (int t = 0; t <= slot; t++) {
                int places = racks;
                for (int i = 0; i < lengths; i++) {
                    if (length[i] > 0 && length[i] < 1000) {
                        if (length[i] == t) {
                            length[i] = 0;
                        } else {
                            places--;
                        }
                    }
                    if (length[i] == 1000 + t) {
                        length[i] = -1;
                    }
                }
                for (int i = 0; i < lengths && places > 0; i++) {
                    if (length[i] == -1) {
                        length[i] = t + data.dry;
                        places--;
                    }
                }
                for (int[] use : uses) {
                    int missing = use[0] == t ? use[2] : 0;
                    for (int i = 0; i < lengths && missing > 0; i++) {
                        if (length[i] == 0) {
                            length[i] = 1000 + use[1];
                            missing--;
                        }
                    }
                }
            }
            int[] counts = new int[3];
            for (int one : length) {
                if (one == 0) {
                    counts[0]++;
                } else if (one == -1) {
                    counts[1]++;
                } else if (one < 1000) {
                    counts[2]++;
                }
            }
            return counts;
        }

        int finish() {
            int finish = 0;
            for (int one : end) {
                finish = Math.max(finish, one);
            }
            return finish;
        }
    }

    private StringBuilder input = new StringBuilder();
    private Data data = new Data();
    private int code;
    private int offset = -1;
    private int[] starts = new int[0];
    private final List<int[]> edits = new ArrayList<>();
    private int bestOrder;

    public int appendInput(int a, int b, int c, int d, int e) {
        if (input.length() + 20 > 1000) {
            return -1;
        }
        for (int word : new int[] {a, b, c, d, e}) {
            input.append((char) (word >>> 24)).append((char) (word >> 16 & 255)).append((char) (word >> 8 & 255))
                    .append((char) (word & 255));
        }
        return input.length();
    }

    public boolean truncateInput(int length) {
        if (length < 0 || length > input.length()) {
            return false;
        }
        input.setLength(length);
        return true;
    }

    public int loadBrigade() {
        String text = input.toString();
        input = new StringBuilder();
        try {
            data = new Parser(text).parse();
        } catch (Refused e) {
            code = e.code;
            offset = e.offset;
            return -1;
        }
        code = 0;
        offset = -1;
        starts = noStarts();
        edits.clear();
        return data.drills.size();
    }

    public int errorCode() {
        return code;
    }

    public int errorOffset() {
        return offset;
    }

    public int nodes() {
        return data.nodes;
    }

    public int stations() {
        return data.stations.size();
    }

    public int engines() {
        return data.engines.size();
    }

    public int streets() {
        return data.streets.size();
    }

    public int drills() {
        return data.drills.size();
    }

    public int find() {
        String name = input.toString().replaceAll("^[ \n]+|[ \n]+$", "");
        input = new StringBuilder();
        return data.names.getOrDefault(name, -1);
    }

    public int travelMinutes(int from, int to) {
        index(from, data.nodes);
        index(to, data.nodes);
        return shortest(from, to);
    }

    public int travelSlots(int engine, int drill) {
        index(engine, engines());
        index(drill, drills());
        return slots(engine, data.drills.get(drill).node);
    }

    public int homeStation(int engine) {
        index(engine, engines());
        return data.engines.get(engine).home;
    }

    public int engineKind(int engine) {
        index(engine, engines());
        return data.engines.get(engine).kind;
    }

    public int coverStation(int available, int engine) {
        index(engine, engines());
        set(available);
        return posts(available, true)[engine];
    }

    public int uncovered(int available) {
        set(available);
        return openStreets(available);
    }

    public int uncoveredWithoutMoves(int available) {
        set(available);
        return openStreets(posts(available, false));
    }

    public int nearestMinutes(int available, int street) {
        index(street, streets());
        set(available);
        return nearest(posts(available, true), data.streets.get(street));
    }

    public int coveringEngines(int available, int street) {
        index(street, streets());
        set(available);
        int[] posts = posts(available, true);
        int covering = 0;
        for (int e = 0; e < engines(); e++) {
            int[] alone = new int[engines()];
            Arrays.fill(alone, -1);
            alone[e] = posts[e];
            if ((openStreets(alone) >> street & 1) == 0) {
                covering |= 1 << e;
            }
        }
        return covering;
    }

    public int weakestStreet(int available) {
        set(available);
        int weakest = -1;
        double least = 0;
        for (int s = 0; s < streets(); s++) {
            int nearest = nearestMinutes(available, s);
            double margin = nearest < 0 ? Double.NEGATIVE_INFINITY : data.streets.get(s).limit - nearest;
            if (weakest < 0 || margin < least) {
                weakest = s;
                least = margin;
            }
        }
        return weakest;
    }

    public int criticalEngine() {
        int critical = -1;
        for (int e = engines() - 1; e >= 0; e--) {
            if (critical < 0 || openWithout(e) >= openWithout(critical)) {
                critical = e;
            }
        }
        return critical;
    }

    public int safeAbsences() {
        for (int k = 0; k <= engines(); k++) {
            for (int away = 0; away <= all(); away++) {
                if (Integer.bitCount(away) == k && openStreets(all() & ~away) != 0) {
                    return k - 1;
                }
            }
        }
        return engines();
    }

    public int setStart(int drill, int slot) {
        index(drill, drills());
        argument(slot >= -1 && slot <= 23);
        edit(starts);
        int before = starts[drill];
        starts = starts.clone();
        starts[drill] = slot;
        return before;
    }

    public int start(int drill) {
        index(drill, drills());
        return starts[drill];
    }

    public int clearStarts() {
        edit(starts);
        int cleared = (int) Arrays.stream(starts).filter(s -> s >= 0).count();
        starts = noStarts();
        return cleared;
    }

    public int undo() {
        if (edits.isEmpty()) {
            return -1;
        }
        starts = edits.remove(edits.size() - 1);
        return edits.size();
    }

    public int drillState(int drill) {
        index(drill, drills());
        return table().state[drill];
    }

    public int drillEngines(int drill) {
        index(drill, drills());
        return table().engines[drill];
    }

    public int drillBegin(int drill) {
        index(drill, drills());
        return table().begin[drill];
    }

    public int drillEnd(int drill) {
        index(drill, drills());
        return table().end[drill];
    }

    public int drillBack(int drill) {
        index(drill, drills());
        return table().absences.stream().filter(a -> a[3] == drill).mapToInt(a -> a[2]).max().orElse(-1);
    }

    public int violations() {
        return table().violations.size();
    }

    public int violationCode(int index) {
        index(index, violations());
        return table().violations.get(index)[1];
    }

    public int violationSlot(int index) {
        index(index, violations());
        return table().violations.get(index)[0];
    }

    public int violationSubject(int index) {
        index(index, violations());
        return table().violations.get(index)[2];
    }

    public int availableAt(int slot) {
        index(slot, 48);
        return table().available(slot);
    }

    public int uncoveredAt(int slot) {
        index(slot, 48);
        return openStreets(table().available(slot));
    }

    public int dryHoses(int slot) {
        index(slot, 48);
        return table().hoses(slot)[0];
    }

    public int wetHoses(int slot) {
        index(slot, 48);
        return table().hoses(slot)[1];
    }

    public int dryingHoses(int slot) {
        index(slot, 48);
        return table().hoses(slot)[2];
    }

    public int awaySlots(int engine) {
        index(engine, engines());
        return table().absences.stream().filter(a -> a[0] == engine).mapToInt(a -> a[2] - a[1]).sum();
    }

    public int busiestSlot() {
        Table table = table();
        int busiest = 47;
        for (int slot = 46; slot >= 0; slot--) {
            if (Integer.bitCount(table.available(slot)) <= Integer.bitCount(table.available(busiest))) {
                busiest = slot;
            }
        }
        return busiest;
    }

    public int finish() {
        return table().finish();
    }

    public int earliestStart(int drill) {
        index(drill, drills());
        for (int slot = 0; slot < 24; slot++) {
            int[] tried = starts.clone();
            tried[drill] = slot;
            if (table(tried).violations.isEmpty()) {
                return slot;
            }
        }
        return -1;
    }

    public int compact() {
        if (violations() > 0) {
            return -1;
        }
        edit(starts);
        starts = starts.clone();
        int changes = 0;
        boolean changed = true;
        while (changed) {
            changed = false;
            for (int d = 0; d < drills(); d++) {
                if (starts[d] >= 0 && earliestStart(d) != starts[d]) {
                    starts[d] = earliestStart(d);
                    changes++;
                    changed = true;
                }
            }
        }
        return changes;
    }

    public int schedule(int order) {
        argument(order >= 0);
        List<Integer> drills = new ArrayList<>();
        for (int rest = order; rest > 0; rest /= 10) {
            drills.add(rest % 10 - 1);
        }
        for (int d : drills) {
            argument(d >= 0 && d < drills() && drills.indexOf(d) == drills.lastIndexOf(d));
        }
        int[] made = listSchedule(drills, all(), data.lengths, data.racks);
        if (made == null) {
            return -1;
        }
        edit(starts);
        starts = made;
        return finish();
    }

    public int bestFinish() {
        return best(all(), data.lengths, data.racks);
    }

    public int bestOrder() {
        best(all(), data.lengths, data.racks);
        return bestOrder;
    }

    public int bestFinishWithout(int engine) {
        index(engine, engines());
        return best(all() & ~(1 << engine), data.lengths, data.racks);
    }

    public int bestFinishWith(int lengths, int racks) {
        argument(lengths >= 0 && lengths <= 40 && racks >= 1 && racks <= 12);
        return best(all(), lengths, racks);
    }

    public int enoughRacks() {
        int wanted = best(all(), data.lengths, 12);
        for (int racks = 1; wanted >= 0; racks++) {
            if (best(all(), data.lengths, racks) == wanted) {
                return racks;
            }
        }
        return -1;
    }

    private int best(int staff, int lengths, int racks) {
        int best = -1;
        bestOrder = -1;
        for (List<Integer> order : orders(new TreeSet<>(numbers(drills())))) {
            int[] made = listSchedule(order, staff, lengths, racks);
            if (made == null) {
                continue;
            }
            int finish = new Table(made, staff, lengths, racks).finish();
            if (best < 0 || finish < best) {
                best = finish;
                bestOrder = 0;
                for (int i = order.size() - 1; i >= 0; i--) {
                    bestOrder = bestOrder * 10 + order.get(i) + 1;
                }
            }
        }
        return best;
    }

    private int[] listSchedule(List<Integer> order, int staff, int lengths, int racks) {
        int[] made = noStarts();
        int slot = 0;
        for (int d : order) {
            made[d] = slot;
            while (!new Table(made, staff, lengths, racks).violations.isEmpty()) {
                slot++;
                if (slot > 23) {
                    return null;
                }
                made[d] = slot;
            }
        }
        return made;
    }

    private static List<Integer> numbers(int n) {
        List<Integer> numbers = new ArrayList<>();
        for (int i = 0; i < n; i++) {
            numbers.add(i);
        }
        return numbers;
    }

    /** All orders of some drills, the lexicographically smallest one first. */
    private static List<List<Integer>> orders(TreeSet<Integer> drills) {
        List<List<Integer>> orders = new ArrayList<>();
        if (drills.isEmpty()) {
            orders.add(List.of());
        }
        for (int first : drills) {
            TreeSet<Integer> others = new TreeSet<>(drills);
            others.remove(first);
            for (List<Integer> rest : orders(others)) {
                List<Integer> order = new ArrayList<>(List.of(first));
                order.addAll(rest);
                orders.add(order);
            }
        }
        return orders;
    }

    private Table table() {
        return table(starts);
    }

    private Table table(int[] of) {
        return new Table(of, all(), data.lengths, data.racks);
    }

    private int[] noStarts() {
        int[] none = new int[drills()];
        Arrays.fill(none, -1);
        return none;
    }

    private void edit(int[] before) {
        edits.add(before.clone());
        if (edits.size() > 8) {
            edits.remove(0);
        }
    }

    private int all() {
        return (1 << engines()) - 1;
    }

    private int openWithout(int engine) {
        return Integer.bitCount(openStreets(all() & ~(1 << engine)));
    }

    private int openStreets(int available) {
        return data.open.computeIfAbsent(available, set -> openStreets(posts(set, true)));
    }

    private int openStreets(int[] posts) {
        int open = 0;
        for (int s = 0; s < streets(); s++) {
            int nearest = nearest(posts, data.streets.get(s));
            if (nearest < 0 || nearest > data.streets.get(s).limit) {
                open |= 1 << s;
            }
        }
        return open;
    }

    private int nearest(int[] posts, Street street) {
        int nearest = -1;
        for (int e = 0; e < posts.length; e++) {
            if (posts[e] >= 0 && (street.kind < 0 || street.kind == data.engines.get(e).kind)) {
                int minutes = shortest(data.stations.get(posts[e]), street.node);
                if (minutes >= 0 && (nearest < 0 || minutes < nearest)) {
                    nearest = minutes;
                }
            }
        }
        return nearest;
    }

    private int[] posts(int available, boolean moves) {
        int n = data.stations.size();
        List<TreeSet<Integer>> crews = new ArrayList<>();
        for (int s = 0; s < n; s++) {
            crews.add(new TreeSet<>());
        }
        for (int e = 0; e < engines(); e++) {
            if ((available >> e & 1) != 0) {
                crews.get(data.engines.get(e).home).add(e);
            }
        }
        for (int s = 0; moves && s < n; s++) {
            for (int step = 1; step < n && crews.get(s).isEmpty(); step++) {
                TreeSet<Integer> other = crews.get((s + step) % n);
                if (other.size() >= 2) {
                    crews.get(s).add(other.pollLast());
                }
            }
        }
        int[] posts = new int[engines()];
        Arrays.fill(posts, -1);
        for (int s = 0; s < n; s++) {
            for (int e : crews.get(s)) {
                posts[e] = s;
            }
        }
        return posts;
    }

    private int way(int engine, int node) {
        return shortest(data.stations.get(data.engines.get(engine).home), node);
    }

    private int slots(int engine, int node) {
        int minutes = way(engine, node);
        return minutes < 0 ? -1 : minutes / data.slot + (minutes % data.slot > 0 ? 1 : 0);
    }

    private final Map<Data, Map<Integer, Integer>> ways = new HashMap<>();

    /** The shortest way by giving each node a shorter time over some road until there is none. */
    private int shortest(int from, int to) {
        return ways.computeIfAbsent(data, d -> new HashMap<>()).computeIfAbsent(from * 100 + to, key -> {
            int[] minutes = new int[data.nodes];
            Arrays.fill(minutes, -1);
            minutes[from] = 0;
            for (boolean changed = true; changed;) {
                changed = false;
                for (Road road : data.roads) {
                    changed |= shorten(minutes, road.from, road.to, road.minutes);
                    changed |= shorten(minutes, road.to, road.from, road.minutes);
                }
            }
            return minutes[to];
        });
    }

    private static boolean shorten(int[] minutes, int from, int to, int road) {
        if (minutes[from] < 0 || minutes[to] >= 0 && minutes[to] <= minutes[from] + road) {
            return false;
        }
        minutes[to] = minutes[from] + road;
        return true;
    }

    private static void index(int index, int count) {
        if (index < 0 || index >= count) {
            throw new IndexOutOfBoundsException();
        }
    }

    private void set(int set) {
        argument((set & ~all()) == 0);
    }

    private static void argument(boolean good) {
        if (!good) {
            throw new IllegalArgumentException();
        }
    }
}
