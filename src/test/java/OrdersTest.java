/** Promises 46 to 53: earliest starts, compact, list schedules and best orders. */
public final class OrdersTest {
    private static final String PUMP = "node a;station s at a;engine p pump at s;";
    private static final String LADDER = "node a;station s at a;engine l ladder at s;";
    /** Drill 0 lasts 5, drill 1 lasts 1, and both need the only pump. */
    private static final String TWO = PUMP + "drill x at a lasts 5 needs 1 pump;drill y at a lasts 1 needs 1 pump;";
    private static final String WET = PUMP + "engine q pump at s;hoses 4 dry 2 racks #;drill x at a lasts 1 needs 1 pump hose 4;"
            + "drill y at a lasts 1 needs 1 pump hose 4;";
    private static final Bench BENCH = new Bench();

    public static void main(String[] args) {
        promise46EarliestStart();
        promise47Compact();
        promise48Schedule();
        promise48WrongOrders();
        promises49And50Best();
        promise51BestFinishWithout();
        promise52BestFinishWith();
        promise53EnoughRacks();
        BENCH.close("OrdersTest");
    }

    private static void promise46EarliestStart() {
        DrillPlanner x = Bench.planner(TWO);
        BENCH.same("free", x.earliestStart(0), 0);
        x.setStart(0, 3);
        BENCH.same("own start does not count", x.earliestStart(0), 0);
        BENCH.same("before the other one", x.earliestStart(1), 0);
        x.setStart(1, 2);
        BENCH.same("behind the other one", x.earliestStart(0), 3);
        BENCH.same("starts stay", x.start(0) * 10 + x.start(1), 32);
        BENCH.same("no edit", x.undo(), 1);
        x.setStart(0, 20);
        x.setStart(1, 22);
        BENCH.same("no gap of its own end", x.earliestStart(0), 0);
        BENCH.same("cured by a move", x.earliestStart(1), 0);
        DrillPlanner late = Bench.planner(PUMP + "drill x at a lasts 8 needs 1 pump from 23;drill y at a lasts 1 needs 1 pump after x;"
                + "drill z at a lasts 1 needs 1 ladder;");
        BENCH.same("last start", late.earliestStart(0), 23);
        BENCH.same("none without the other one", late.earliestStart(1), -1);
        late.setStart(0, 23);
        BENCH.same("none behind it", late.earliestStart(1), -1);
        BENCH.same("no engine", late.earliestStart(2), -1);
        late.setStart(0, 0);
        BENCH.same("none while another one is cancelled", late.earliestStart(1), -1);
        BENCH.same("cured", late.earliestStart(0), 23);
        DrillPlanner last = Bench.planner(PUMP + "drill x at a lasts 2 needs 1 pump;drill y at a lasts 1 needs 1 pump after x;");
        last.setStart(0, 21);
        BENCH.same("23 is a start", last.earliestStart(1), 23);
        last.setStart(0, 22);
        BENCH.same("24 is none", last.earliestStart(1), -1);
        // While the ladder is away, a pump moves to b; when it is back, no pump is there any more.
        DrillPlanner back = Bench.planner("node a;node b;station s at a;station t at b;engine p pump at s;engine q pump at s;"
                + "engine l ladder at t;street b within 0 pump;drill x at b lasts 1 needs 1 ladder;");
        BENCH.same("uncovered only later", back.earliestStart(0), -1);
        DrillPlanner bare = Bench.planner(PUMP + "street a within 0;drill x at a lasts 1 needs 1 pump;");
        BENCH.same("never covered while away", bare.earliestStart(0), -1);
        for (int wrong : new int[] {-1, 2, Integer.MIN_VALUE, Integer.MAX_VALUE}) {
            BENCH.throwsIndex("earliestStart " + wrong, () -> x.earliestStart(wrong));
        }
    }

    private static void promise47Compact() {
        DrillPlanner x = Bench.planner(TWO);
        BENCH.same("nothing to move", x.compact(), 0);
        BENCH.same("an edit all the same", x.undo(), 0);
        x.setStart(0, 4);
        x.setStart(1, 3);
        // First pass: drill 0 cannot move, drill 1 goes to 0. Second pass: drill 0 goes to 1.
        BENCH.same("two passes", x.compact(), 2);
        BENCH.same("starts", x.start(0) * 10 + x.start(1), 10);
        BENCH.same("undo", x.undo(), 2);
        BENCH.same("starts before", x.start(0) * 10 + x.start(1), 43);
        x.setStart(1, 4);
        BENCH.same("not valid", x.compact(), -1);
        BENCH.same("unchanged", x.start(0) * 10 + x.start(1), 44);
        BENCH.same("no edit", x.undo(), 2);
        x.setStart(1, -1);
        BENCH.same("only drills with a start", x.compact(), 1);
        BENCH.same("others stay away", x.start(0) * 10 + x.start(1), -1);
        DrillPlanner open = Bench.planner(PUMP + "street a within 0 ladder;drill x at a lasts 1 needs 1 pump;");
        BENCH.same("never valid", open.compact(), -1);
        BENCH.same("no edit", open.undo(), -1);
    }

    private static void promise48Schedule() {
        DrillPlanner x = Bench.planner(TWO);
        x.setStart(1, 20);
        BENCH.same("one drill", x.schedule(1), 5);
        BENCH.same("the other one gets no start", x.start(0) * 10 + x.start(1), -1);
        BENCH.same("order 0, 1", x.schedule(21), 6);
        BENCH.same("starts", x.start(0) * 10 + x.start(1), 5);
        BENCH.same("order 1, 0", x.schedule(12), 6);
        BENCH.same("starts", x.start(0) * 10 + x.start(1), 10);
        BENCH.same("no drills", x.schedule(0), 0);
        BENCH.same("no starts", x.start(0) + x.start(1), -2);
        BENCH.same("undo", x.undo(), 4);
        BENCH.same("starts", x.start(0) * 10 + x.start(1), 10);
        DrillPlanner y = Bench.planner(PUMP + "engine l ladder at s;drill x at a lasts 1 needs 1 pump from 5;"
                + "drill y at a lasts 1 needs 1 ladder;drill z at a lasts 1 needs 1 pump after x;");
        BENCH.same("not before the one taken before it", y.schedule(21), 6);
        BENCH.same("starts", y.start(0) * 10 + y.start(1), 55);
        BENCH.same("the other order", y.schedule(12), 6);
        BENCH.same("starts", y.start(0) * 10 + y.start(1), 50);
        BENCH.same("three drills", y.schedule(312), 7);
        BENCH.same("starts", "" + y.start(1) + y.start(0) + y.start(2), "056");
        BENCH.same("does not exist", y.schedule(123), -1);
        BENCH.same("unchanged", "" + y.start(1) + y.start(0) + y.start(2), "056");
        BENCH.same("no edit", y.undo(), 2);
        DrillPlanner open = Bench.planner("node a;street a within 0;drill x at a lasts 1 needs 1 pump;");
        BENCH.same("no drills need no cover", open.schedule(0), 0);
        BENCH.same("never valid", open.schedule(1), -1);
    }

    private static void promise48WrongOrders() {
        DrillPlanner x = Bench.planner(TWO);
        x.setStart(0, 9);
        for (int wrong : new int[] {-1, Integer.MIN_VALUE, 3, 13, 31, 11, 22, 121, 10, 20, 102, 201, 210, 1234567890, 9,
            Integer.MAX_VALUE}) {
            BENCH.throwsArgument("schedule " + wrong, () -> x.schedule(wrong));
        }
        BENCH.same("unchanged", x.start(0), 9);
        BENCH.same("no edit", x.undo(), 0);
    }

    private static void promises49And50Best() {
        best("no drills", PUMP, 0, 0);
        best("equal orders", TWO, 6, 21);
        best("no list schedule", PUMP + "drill x at a lasts 1 needs 2 pump;", -1, -1);
        best("one of two has none", TWO + "drill z at a lasts 1 needs 1 ladder;", -1, -1);
        best("the later drill first", PUMP + "engine l ladder at s;drill x at a lasts 1 needs 1 pump from 4;"
                + "drill y at a lasts 6 needs 1 ladder;", 6, 12);
        best("only one order", PUMP + "drill x at a lasts 1 needs 1 pump from 3;drill y at a lasts 1 needs 1 pump;"
                + "drill z at a lasts 1 needs 1 pump after x;", 5, 312);
        best("five drills", PUMP + "drill v at a lasts 1 needs 1 pump;drill w at a lasts 1 needs 1 pump;"
                + "drill x at a lasts 1 needs 1 pump;drill y at a lasts 1 needs 1 pump;drill z at a lasts 1 needs 1 pump;", 5, 54321);
        best("no drills, no cover", "node a;street a within 0;", 0, 0);
        DrillPlanner x = Bench.planner(TWO);
        x.setStart(0, 9);
        BENCH.same("bestFinish", x.bestFinish() * 100 + x.bestOrder(), 621);
        BENCH.same("starts stay", x.start(0) * 10 + x.start(1), 89);
        BENCH.same("no edit", x.undo(), 0);
        BENCH.same("order as schedule takes it", x.schedule(x.bestOrder()), x.bestFinish());
    }

    private static void best(String what, String text, int finish, int order) {
        DrillPlanner x = Bench.planner(text);
        BENCH.same("bestFinish: " + what, x.bestFinish(), finish);
        BENCH.same("bestOrder: " + what, x.bestOrder(), order);
    }

    private static void promise51BestFinishWithout() {
        DrillPlanner x = Bench.planner(PUMP + "engine q pump at s;engine l ladder at s;street a within 0 ladder;"
                + "drill x at a lasts 2 needs 1 pump;drill y at a lasts 3 needs 1 pump;");
        BENCH.same("with all", x.bestFinish(), 3);
        BENCH.same("without a pump", x.bestFinishWithout(0), 5);
        BENCH.same("without the other pump", x.bestFinishWithout(1), 5);
        BENCH.same("without cover", x.bestFinishWithout(2), -1);
        BENCH.same("still there", x.bestFinish(), 3);
        BENCH.same("available", x.availableAt(0), 7);
        for (int wrong : new int[] {-1, 3, 31, 32, Integer.MIN_VALUE}) {
            BENCH.throwsIndex("bestFinishWithout " + wrong, () -> x.bestFinishWithout(wrong));
        }
        BENCH.same("no drills", Bench.planner(PUMP).bestFinishWithout(0), 0);
        // Without the ladder, the ring sends a pump to t instead, and street b is covered.
        DrillPlanner moved = Bench.planner("node a;node b;station s at a;station t at b;engine p pump at s;engine q pump at s;"
                + "engine r pump at s;engine l ladder at t;street b within 0 pump;drill x at a lasts 1 needs 1 pump;");
        BENCH.same("with the ladder at t", moved.bestFinish(), -1);
        BENCH.same("without it a pump moves up", moved.bestFinishWithout(3), 1);
    }

    private static void promise52BestFinishWith() {
        DrillPlanner x = Bench.planner(WET.replace("#", "1"));
        // One length dries at a time for two slots: the last one is dry eight slots after the end of the first drill.
        BENCH.same("bestFinish", x.bestFinish(), 10);
        BENCH.same("as it is", x.bestFinishWith(4, 1), 10);
        BENCH.same("more places", x.bestFinishWith(4, 2), 6);
        BENCH.same("enough places", x.bestFinishWith(4, 12), 4);
        BENCH.same("enough lengths", x.bestFinishWith(8, 1), 1);
        BENCH.same("some more lengths", x.bestFinishWith(6, 1), 6);
        BENCH.same("too few lengths", x.bestFinishWith(3, 12), -1);
        BENCH.same("no lengths", x.bestFinishWith(0, 12), -1);
        BENCH.same("most", x.bestFinishWith(40, 12), 1);
        BENCH.same("unchanged", x.dryHoses(0), 4);
        for (int wrong : new int[] {-1, 41, Integer.MIN_VALUE, Integer.MAX_VALUE}) {
            BENCH.throwsArgument("bestFinishWith lengths " + wrong, () -> x.bestFinishWith(wrong, 1));
        }
        for (int wrong : new int[] {0, 13, -1, Integer.MIN_VALUE, Integer.MAX_VALUE}) {
            BENCH.throwsArgument("bestFinishWith racks " + wrong, () -> x.bestFinishWith(1, wrong));
        }
    }

    private static void promise53EnoughRacks() {
        BENCH.same("one for each length", Bench.planner(WET.replace("#", "1")).enoughRacks(), 4);
        BENCH.same("the own places do not count", Bench.planner(WET.replace("#", "12")).enoughRacks(), 4);
        BENCH.same("no hoses used", Bench.planner(TWO).enoughRacks(), 1);
        BENCH.same("no drills", Bench.planner(PUMP).enoughRacks(), 1);
        BENCH.same("no list schedule", Bench.planner(LADDER + "drill x at a lasts 1 needs 1 pump;").enoughRacks(), -1);
        String many = WET.replace("#", "1").replace("hoses 4", "hoses 13").replace("hose 4", "hose 13");
        BENCH.same("all twelve", Bench.planner(many).enoughRacks(), 7);
        BENCH.same("bestFinishWith 12", Bench.planner(many).bestFinishWith(13, 12), 6);
        String most = many.replace("13", "12");
        BENCH.same("twelve of twelve", Bench.planner(most).enoughRacks(), 12);
    }
}
