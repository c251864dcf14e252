/** Promises 7 to 11 and 13 to 24: what a brigade holds, travel, and cover. */
public final class CoverTest {
    /** Ways: a-b 10, b-c 20, a-c 30 over b; nothing leads to i. Streets: 0 a, 1 b pump, 2 c, 3 i, 4 a rescue. */
    private static final String TOWN = "slot 20;node a;node b;node c;node i;road a b 10;road b c 20;road c a 45;"
            + "station s at a;station t at b;station u at c;engine p pump at s;engine q pump at s;engine r ladder at t;"
            + "engine v rescue at t;street a within 5;street b within 10 pump;street c within 30;street i within 120;"
            + "street a within 0 rescue;drill x at c lasts 2 needs 1 pump;drill y at i lasts 1 needs 1 pump;"
            + "drill z at a lasts 1 needs 1 ladder;";
    private static final Bench BENCH = new Bench();

    public static void main(String[] args) {
        promises7To11Counts();
        promise13TravelMinutes();
        promise14TravelSlots();
        promises15And16Engines();
        promise17CoverStation();
        promise18Uncovered();
        promise19UncoveredWithoutMoves();
        promise20NearestMinutes();
        promise21CoveringEngines();
        promise22WeakestStreet();
        promise23CriticalEngine();
        promise24SafeAbsences();
        BENCH.close("CoverTest");
    }

    private static void promises7To11Counts() {
        DrillPlanner x = Bench.planner(TOWN);
        BENCH.same("nodes", x.nodes(), 4);
        BENCH.same("stations", x.stations(), 3);
        BENCH.same("engines", x.engines(), 4);
        BENCH.same("streets", x.streets(), 5);
        BENCH.same("drills", x.drills(), 3);
    }

    private static void promise13TravelMinutes() {
        DrillPlanner x = Bench.planner(TOWN);
        BENCH.same("a to c goes over b", x.travelMinutes(0, 2), 30);
        BENCH.same("c to a", x.travelMinutes(2, 0), 30);
        BENCH.same("b to c", x.travelMinutes(1, 2), 20);
        BENCH.same("same node", x.travelMinutes(2, 2), 0);
        BENCH.same("same lonely node", x.travelMinutes(3, 3), 0);
        BENCH.same("no way", x.travelMinutes(0, 3), -1);
        BENCH.same("no way back", x.travelMinutes(3, 0), -1);
        for (int wrong : new int[] {-1, 4, 12, Integer.MIN_VALUE, Integer.MAX_VALUE}) {
            BENCH.throwsIndex("travelMinutes from " + wrong, () -> x.travelMinutes(wrong, 0));
            BENCH.throwsIndex("travelMinutes to " + wrong, () -> x.travelMinutes(0, wrong));
        }
        // Of several roads between two nodes the shortest counts, whichever way it is given.
        DrillPlanner y = Bench.planner("node a;node b;road a b 9;road b a 4;road a b 7;");
        BENCH.same("shortest of three roads", y.travelMinutes(0, 1) * 10 + y.travelMinutes(1, 0), 44);
        DrillPlanner over = Bench.planner("node a;node b;node c;road b a 5;road a c 6;");
        BENCH.same("over the first node", over.travelMinutes(1, 2), 11);
        StringBuilder chain = new StringBuilder();
        for (int i = 0; i < 12; i++) {
            chain.append("node n").append((char) ('a' + i)).append(';');
        }
        for (int i = 11; i > 0; i--) {
            chain.append("road n").append((char) ('a' + i)).append(" n").append((char) ('a' + i - 1)).append(" 60;");
        }
        BENCH.same("longest way", Bench.planner(chain.toString()).travelMinutes(0, 11), 660);
    }

    private static void promise14TravelSlots() {
        DrillPlanner x = Bench.planner(TOWN);
        BENCH.same("rounded up", x.travelSlots(0, 0), 2);
        BENCH.same("whole slots", x.travelSlots(2, 0), 1);
        BENCH.same("half a slot", x.travelSlots(2, 2), 1);
        BENCH.same("at home", x.travelSlots(0, 2), 0);
        BENCH.same("no way", x.travelSlots(0, 1), -1);
        BENCH.throwsIndex("travelSlots engine -1", () -> x.travelSlots(-1, 0));
        BENCH.throwsIndex("travelSlots engine 4", () -> x.travelSlots(4, 0));
        BENCH.throwsIndex("travelSlots drill -1", () -> x.travelSlots(0, -1));
        BENCH.throwsIndex("travelSlots drill 3", () -> x.travelSlots(0, 3));
        DrillPlanner far = Bench.planner("slot 10;node a;node b;node c;road a b 60;road b c 1;station s at a;engine p pump at s;"
                + "drill x at c lasts 1 needs 1 pump;");
        BENCH.same("more than six", far.travelSlots(0, 0), 7);
    }

    private static void promises15And16Engines() {
        DrillPlanner x = Bench.planner(TOWN);
        int[] homes = {0, 0, 1, 1};
        int[] kinds = {0, 0, 1, 2};
        for (int engine = 0; engine < 4; engine++) {
            BENCH.same("homeStation", x.homeStation(engine), homes[engine]);
            BENCH.same("engineKind", x.engineKind(engine), kinds[engine]);
        }
        for (int wrong : new int[] {-1, 4, 10, Integer.MIN_VALUE}) {
            BENCH.throwsIndex("homeStation " + wrong, () -> x.homeStation(wrong));
            BENCH.throwsIndex("engineKind " + wrong, () -> x.engineKind(wrong));
        }
    }

    private static void promise17CoverStation() {
        DrillPlanner x = Bench.planner(TOWN);
        posts(x, 15, "0,2,1,1");
        posts(x, 13, "0,-1,1,2");
        posts(x, 12, "-1,-1,1,0");
        posts(x, 3, "0,1,-1,-1");
        posts(x, 8, "-1,-1,-1,1");
        posts(x, 0, "-1,-1,-1,-1");
        BENCH.throwsIndex("coverStation engine 4", () -> x.coverStation(0, 4));
        BENCH.throwsIndex("coverStation engine -1", () -> x.coverStation(0, -1));
        BENCH.throwsIndex("both wrong", () -> x.coverStation(16, 4));
        BENCH.throwsArgument("coverStation 16", () -> x.coverStation(16, 0));
        BENCH.throwsArgument("coverStation -1", () -> x.coverStation(-1, 0));
        // Three engines at the last station, one at station 1: the first empty station takes the greatest number.
        String ring = "node a;station s at a;station t at a;station u at a;station v at a;";
        DrillPlanner y = Bench.planner(ring + "engine e pump at v;engine f pump at v;engine g ladder at v;engine h pump at t;");
        posts(y, 15, "3,2,0,1");
        posts(y, 3, "3,0,-1,-1");
        posts(y, 7, "3,1,0,-1");
        // Two donors: the next one in the ring comes first, and station 0 stands behind the last one.
        DrillPlanner z = Bench.planner(ring + "engine e pump at t;engine f pump at t;engine g pump at u;engine h pump at u;");
        posts(z, 15, "1,0,2,3");
        DrillPlanner w = Bench.planner(ring + "engine e pump at s;engine f pump at s;engine g pump at u;engine h pump at u;"
                + "engine i pump at u;");
        posts(w, 31, "0,3,2,2,1");
        StringBuilder ten = new StringBuilder(ring);
        for (int i = 0; i < 10; i++) {
            ten.append("engine e").append((char) ('a' + i)).append(" pump at v;");
        }
        posts(Bench.planner(ten.toString()), 1023, "3,3,3,3,3,3,3,2,1,0");
        // The only station has no other one to take an engine from.
        posts(Bench.planner("node a;station s at a;engine e pump at s;"), 1, "0");
    }

    private static void posts(DrillPlanner x, int available, String want) {
        StringBuilder got = new StringBuilder();
        for (int engine = 0; engine < x.engines(); engine++) {
            got.append(engine == 0 ? "" : ",").append(x.coverStation(available, engine));
        }
        BENCH.same("coverStation of " + available, got, want);
    }

    private static void promise18Uncovered() {
        DrillPlanner x = Bench.planner(TOWN);
        int[][] rows = {{15, 24}, {12, 10}, {3, 24}, {0, 31}, {15, 24}};
        for (int[] row : rows) {
            BENCH.same("uncovered " + row[0], x.uncovered(row[0]), row[1]);
        }
        for (int wrong : new int[] {16, -1, 1 << 31, 1024, 31}) {
            BENCH.throwsArgument("uncovered " + wrong, () -> x.uncovered(wrong));
        }
        DrillPlanner y = Bench.planner("node a;node b;road a b 30;station s at a;engine p pump at s;street b within 30;"
                + "street b within 29;street b within 30 ladder;");
        BENCH.same("just in time, one late, one of another kind", y.uncovered(1), 6);
        Bench.type(y, "node a;station s at a;engine p pump at s;street a within 0;");
        y.loadBrigade();
        BENCH.same("another brigade", y.uncovered(1), 0);
    }

    private static void promise19UncoveredWithoutMoves() {
        DrillPlanner x = Bench.planner(TOWN);
        BENCH.same("uncoveredWithoutMoves 15", x.uncoveredWithoutMoves(15), 24);
        BENCH.same("uncoveredWithoutMoves 12", x.uncoveredWithoutMoves(12), 27);
        BENCH.same("uncoveredWithoutMoves 0", x.uncoveredWithoutMoves(0), 31);
        BENCH.same("uncovered 12 after it", x.uncovered(12), 10);
        for (int wrong : new int[] {16, -1, 1 << 31}) {
            BENCH.throwsArgument("uncoveredWithoutMoves " + wrong, () -> x.uncoveredWithoutMoves(wrong));
        }
    }

    private static void promise20NearestMinutes() {
        DrillPlanner x = Bench.planner(TOWN);
        int[][] rows = {{15, 2, 0}, {13, 2, 0}, {12, 0, 0}, {12, 1, -1}, {15, 3, -1}, {15, 4, 10}, {15, 1, 10}, {3, 1, 0}, {0, 0, -1},
            {1, 2, 30}};
        for (int[] row : rows) {
            BENCH.same("nearestMinutes " + row[0] + " " + row[1], x.nearestMinutes(row[0], row[1]), row[2]);
        }
        BENCH.throwsIndex("nearestMinutes street 5", () -> x.nearestMinutes(0, 5));
        BENCH.throwsIndex("nearestMinutes street -1", () -> x.nearestMinutes(0, -1));
        BENCH.throwsIndex("nearestMinutes both wrong", () -> x.nearestMinutes(-1, 5));
        BENCH.throwsArgument("nearestMinutes 16", () -> x.nearestMinutes(16, 0));
        BENCH.throwsArgument("nearestMinutes -1", () -> x.nearestMinutes(-1, 0));
    }

    private static void promise21CoveringEngines() {
        DrillPlanner x = Bench.planner(TOWN);
        int[][] rows = {{15, 0, 1}, {15, 1, 1}, {15, 2, 15}, {15, 3, 0}, {15, 4, 0}, {12, 4, 8}, {0, 0, 0}, {3, 1, 3}};
        for (int[] row : rows) {
            BENCH.same("coveringEngines " + row[0] + " " + row[1], x.coveringEngines(row[0], row[1]), row[2]);
        }
        BENCH.throwsIndex("coveringEngines street 5", () -> x.coveringEngines(0, 5));
        BENCH.throwsIndex("coveringEngines both wrong", () -> x.coveringEngines(16, -1));
        BENCH.throwsArgument("coveringEngines 16", () -> x.coveringEngines(16, 4));
    }

    private static void promise22WeakestStreet() {
        DrillPlanner x = Bench.planner(TOWN);
        BENCH.same("unreachable", x.weakestStreet(15), 3);
        BENCH.same("all unreachable", x.weakestStreet(0), 0);
        BENCH.same("first unreachable", x.weakestStreet(12), 1);
        BENCH.throwsArgument("weakestStreet 16", () -> x.weakestStreet(16));
        BENCH.throwsArgument("weakestStreet -1", () -> x.weakestStreet(-1));
        DrillPlanner y = Bench.planner(TOWN.replace("street i within 120;", ""));
        BENCH.same("smallest margin, below 0", y.weakestStreet(15), 3);
        BENCH.same("after the moves", y.weakestStreet(12), 1);
        DrillPlanner z = Bench.planner("node a;node b;road a b 30;station s at a;engine p pump at s;street a within 120;"
                + "street b within 40;street a within 10;street b within 120;");
        BENCH.same("tie", z.weakestStreet(1), 1);
        BENCH.same("no streets", Bench.planner("node a;station s at a;engine p pump at s;").weakestStreet(1), -1);
    }

    private static void promise23CriticalEngine() {
        BENCH.same("tie", Bench.planner(TOWN).criticalEngine(), 0);
        String crew = "node a;station s at a;engine l ladder at s;engine p pump at s;engine q rescue at s;";
        BENCH.same("second engine", Bench.planner(crew + "street a within 0 pump;street a within 0 pump;street a within 0 ladder;"
                + "street a within 0 rescue;").criticalEngine(), 1);
        BENCH.same("last engine", Bench.planner(crew + "street a within 0 rescue;").criticalEngine(), 2);
        BENCH.same("no streets", Bench.planner(crew).criticalEngine(), 0);
        BENCH.same("no engines", Bench.planner("node a;station s at a;street a within 9;").criticalEngine(), -1);
    }

    private static void promise24SafeAbsences() {
        BENCH.same("uncovered with all", Bench.planner(TOWN).safeAbsences(), -1);
        String crew = "node a;station s at a;engine p pump at s;engine q pump at s;engine r pump at s;engine l ladder at s;";
        BENCH.same("one ladder", Bench.planner(crew + "street a within 0 ladder;").safeAbsences(), 0);
        BENCH.same("three pumps", Bench.planner(crew + "street a within 0 pump;").safeAbsences(), 2);
        BENCH.same("any engine", Bench.planner(crew + "street a within 0;").safeAbsences(), 3);
        BENCH.same("no streets", Bench.planner(crew).safeAbsences(), 4);
        BENCH.same("no engines, a street", Bench.planner("node a;street a within 9;").safeAbsences(), -1);
        BENCH.same("nothing", Bench.planner("node a;").safeAbsences(), 0);
        // Without g, engine f must move from a to c and leaves a; without g and f it is a that is covered, not c.
        DrillPlanner y = Bench.planner("node a;node b;station s at a;station t at b;engine e ladder at s;engine f pump at s;"
                + "engine g ladder at t;street a within 0 pump;");
        BENCH.same("uncovered without g", y.uncovered(3), 1);
        BENCH.same("covered without g and e", y.uncovered(2), 0);
        BENCH.same("each set of at most k", y.safeAbsences(), 0);
    }
}
