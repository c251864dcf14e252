import java.io.IOException;
import java.util.HashMap;
import java.util.HashSet;
import java.util.Map;
import java.util.Set;
import java.util.function.Supplier;
import java.util.regex.Pattern;

/** Checks that stand under the sentence of the document that asks for them. */
final class Edges {
    interface IndexCall {
        Object run(int index);
    }

    interface PlannerCall {
        Object run(DrillPlanner planner);
    }

    /** Words that tell a number, a limit, a condition, an exception or a tie. */
    private static final Pattern EDGE = Pattern.compile("\\d|\\b(if|even|no|not|none|never|each|all|both|most|least|greatest|largest|"
            + "smallest|fewest|first|last|latest|before|behind|out of|greater|already|too|tie|several|empty|empties|ignored|different|"
            + "counted|throws|without|unless)\\b", Pattern.CASE_INSENSITIVE);
    private static final int[] SLOTS = {0, 1, 2, 3, 4, 5, 6, 8, 10, 12, 23, 24, 46, 47};

    private final Bench bench;
    private final Document document = new Document();
    private final Map<String, Set<String>> quoted = new HashMap<>();
    private String words = "";
    private int checksBefore;

    Edges(Bench bench) throws IOException {
        this.bench = bench;
    }

    /** Opens the test of a sentence, or of the part of it that the words quote. */
    void sentence(String part, String quote) {
        closeSentence();
        bench.same("part " + part + " of the document has <" + quote + ">", document.has(part, quote), true);
        quoted.computeIfAbsent(part, key -> new HashSet<>()).add(quote);
        words = part + " <" + quote + "> ";
        checksBefore = bench.checks();
    }

    private void closeSentence() {
        if (!words.isEmpty() && bench.checks() == checksBefore) {
            bench.same(words + "is tested", false, true);
        }
    }

    /** Every sentence of the document that names an edge is tested, but for those that are told to need no test. */
    void closeDocument(Set<String> withoutTest) {
        closeSentence();
        words = "";
        document.sentences().forEach((part, sentences) -> {
            for (String sentence : sentences) {
                boolean tested = quoted.getOrDefault(part, Set.of()).stream().anyMatch(sentence::contains);
                if (EDGE.matcher(sentence).find() && !withoutTest.contains(sentence)) {
                    bench.same("part " + part + " <" + sentence + "> is tested", tested, true);
                }
            }
        });
    }

    void same(String what, long got, long want) {
        bench.same(words + what, got, want);
    }

    void same(String what, Object got, Object want) {
        bench.same(words + what, got, want);
    }

    void throwsArgument(String what, Bench.Call call) {
        bench.throwsArgument(words + what, call);
    }

    void throwsIndex(String what, Bench.Call call) {
        bench.throwsIndex(words + what, call);
    }

    /** The indexes from 0 to below the count are taken, the others refused. */
    void onlyIndexes(String what, int count, IndexCall call) {
        for (int wrong : new int[] {-1, count, count + 1, 64, Integer.MIN_VALUE, Integer.MAX_VALUE}) {
            throwsIndex(what + " " + wrong, () -> call.run(wrong));
        }
        for (int index = 0; index < count; index++) {
            int good = index;
            same(what + " " + index + " throws", Bench.outcome(() -> call.run(good)).startsWith("throws"), false);
        }
    }

    /** The sets of the engines that there are are taken; a bit too many is refused. */
    void onlySetsOfEngines(String what, DrillPlanner x, IndexCall call) {
        int all = (1 << x.engines()) - 1;
        for (int bit = x.engines(); bit < 32; bit++) {
            int wrong = 1 << bit;
            throwsArgument(what + " " + wrong, () -> call.run(wrong));
            throwsArgument(what + " " + (wrong | all), () -> call.run(wrong | all));
        }
        throwsArgument(what + " -1", () -> call.run(-1));
        same(what + " of all throws", Bench.outcome(() -> call.run(all)).startsWith("throws"), false);
        same(what + " of none throws", Bench.outcome(() -> call.run(0)).startsWith("throws"), false);
    }

    void loads(String text, int drills) {
        DrillPlanner x = new DrillPlanner();
        Bench.type(x, text);
        same("load " + text, x.loadBrigade(), drills);
        same("errorCode of " + text, x.errorCode(), DrillPlanner.NO_ERROR);
        same("errorOffset of " + text, x.errorOffset(), -1);
    }

    /** The text is wrong at the sign '^', which is taken out. */
    void fails(String marked, int code) {
        int offset = marked.indexOf('^');
        String text = marked.substring(0, offset) + marked.substring(offset + 1);
        DrillPlanner x = new DrillPlanner();
        Bench.type(x, text);
        same("load " + marked, x.loadBrigade(), -1);
        same("errorCode of " + marked, x.errorCode(), code);
        same("errorOffset of " + marked, x.errorOffset(), offset);
    }

    /** A planner with a brigade that must be free of errors. */
    DrillPlanner planner(String text) {
        DrillPlanner x = Bench.planner(text);
        same("errorCode of " + text, x.errorCode(), DrillPlanner.NO_ERROR);
        return x;
    }

    /** After a refused call, a planner answers as one that was not asked. */
    void changesNothing(String what, Supplier<DrillPlanner> maker, PlannerCall refused) {
        DrillPlanner asked = maker.get();
        Bench.outcome(() -> refused.run(asked));
        same(what + " changes nothing", all(asked), all(maker.get()));
    }

    /** What a planner answers to many calls; the last ones undo all edits and load what is in the buffer. */
    static String all(DrillPlanner x) {
        StringBuilder seen = new StringBuilder(brigade(x)).append(timetable(x));
        for (int left = x.undo(); left >= 0; left = x.undo()) {
            seen.append(" undo ").append(left).append(starts(x));
        }
        int length = x.appendInput(0x20202020, 0x20202020, 0x20202020, 0x20202020, 0x20202020);
        seen.append(" buffer ").append(length).append(' ').append(x.loadBrigade()).append(' ').append(x.errorCode());
        return seen.append(' ').append(x.errorOffset()).append(' ').append(x.nodes()).toString();
    }

    private static String brigade(DrillPlanner x) {
        int all = (1 << x.engines()) - 1;
        StringBuilder seen = new StringBuilder("brigade");
        add(seen, x.errorCode(), x.errorOffset(), x.nodes(), x.stations(), x.engines(), x.streets(), x.drills());
        add(seen, x.criticalEngine(), x.safeAbsences(), x.weakestStreet(all), x.uncovered(all), x.uncovered(0));
        add(seen, x.uncoveredWithoutMoves(all), x.bestFinish(), x.bestOrder(), x.bestFinishWith(40, 1), x.enoughRacks());
        for (int engine = 0; engine < x.engines(); engine++) {
            add(seen, x.engineKind(engine), x.homeStation(engine), x.coverStation(all, engine), x.uncovered(1 << engine));
        }
        for (int node = 0; node < x.nodes(); node++) {
            add(seen, x.travelMinutes(node, x.nodes() - 1));
        }
        return seen.toString();
    }

    private static String timetable(DrillPlanner x) {
        StringBuilder seen = new StringBuilder(" timetable");
        for (int drill = 0; drill < x.drills(); drill++) {
            add(seen, x.start(drill), x.drillState(drill), x.drillEngines(drill), x.drillBegin(drill), x.drillEnd(drill));
            add(seen, x.drillBack(drill), x.earliestStart(drill));
        }
        add(seen, x.violations(), x.busiestSlot(), x.finish());
        for (int index = 0; index < Math.min(x.violations(), 9); index++) {
            add(seen, x.violationCode(index), x.violationSlot(index), x.violationSubject(index));
        }
        for (int slot : SLOTS) {
            add(seen, x.availableAt(slot), x.uncoveredAt(slot), x.dryHoses(slot), x.wetHoses(slot), x.dryingHoses(slot));
        }
        return seen.toString();
    }

    /** The starts of all drills, a '-' for a drill without one. */
    static String starts(DrillPlanner x) {
        StringBuilder seen = new StringBuilder();
        for (int drill = 0; drill < x.drills(); drill++) {
            seen.append(' ').append(x.start(drill) < 0 ? "-" : String.valueOf(x.start(drill)));
        }
        return seen.toString();
    }

    /** The violations, each as its slot, its code and its subject. */
    static String violations(DrillPlanner x) {
        StringBuilder seen = new StringBuilder();
        for (int i = 0; i < x.violations(); i++) {
            seen.append(seen.length() == 0 ? "" : " ").append(x.violationSlot(i)).append('.').append(x.violationCode(i)).append('.')
                    .append(x.violationSubject(i));
        }
        return seen.toString();
    }

    private static void add(StringBuilder seen, int... answers) {
        for (int answer : answers) {
            seen.append(' ').append(answer);
        }
    }
}
