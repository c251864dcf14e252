/** The edges that the document names for earliest starts, compact, list schedules and orders: promises 46 to 53. */
final class OrderEdges {
    private static final String PUMP = "node a;station s at a;engine p pump at s;";
    /** Drill 0 lasts 5, drill 1 lasts 1, and both need the only pump. */
    private static final String TWO = PUMP + "drill x at a lasts 5 needs 1 pump;drill y at a lasts 1 needs 1 pump;";
    /** No drill of this one ever takes place. */
    private static final String NEVER = PUMP + "drill x at a lasts 1 needs 1 pump;drill y at a lasts 1 needs 1 ladder;";
    /** Both drills use all lengths. */
    private static final String WET = PUMP + "engine q pump at s;hoses # dry 2 racks 1;drill x at a lasts 1 needs 1 pump hose #;"
            + "drill y at a lasts 1 needs 1 pump hose #;";

    private final Edges edges;

    OrderEdges(Edges edges) {
        this.edges = edges;
    }

    void run() {
        listSchedules();
        bestOrders();
        promise46();
        promise46Edges();
        promise47();
        promise48();
        promise48Orders();
        promises49And50();
        promise51();
        promise52();
        promise53();
    }

    private void description(String quote) {
        edges.sentence(Document.DESCRIPTION, quote);
    }

    private void scheduled(DrillPlanner x, int order, int finish, String starts) {
        edges.same("schedule " + order, x.schedule(order) + Edges.starts(x), finish + starts);
    }

    private void listSchedules() {
        description("No drill has a start at first.");
        DrillPlanner x = edges.planner(TWO);
        x.setStart(0, 0);
        x.setStart(1, 0);
        scheduled(x, 2, 1, " - 0");
        scheduled(x, 21, 6, " 0 5");
        scheduled(x, 21, 6, " 0 5");
        description("each gets the smallest start, not less than the start of the drill taken before it, with which the timetable of the "
                + "drills taken so far is valid.");
        DrillPlanner y = edges.planner(PUMP + "engine q pump at s;engine l ladder at s;drill x at a lasts 2 needs 1 pump from 3;"
                + "drill y at a lasts 1 needs 1 ladder;drill z at a lasts 1 needs 2 pump;drill v at a lasts 4 needs 2 pump after z;");
        scheduled(y, 21, 5, " 3 3 - -");
        scheduled(y, 12, 5, " 3 0 - -");
        scheduled(y, 31, 6, " 3 - 5 -");
        scheduled(y, 13, 5, " 3 - 0 -");
        scheduled(y, 4312, 10, " 3 0 5 6");
        // The start of the drill before it, not the greatest end, is where the search begins; and 0 for the first one.
        scheduled(y, 2341, -1, " 3 0 5 6");
        scheduled(y, 143, 7, " 5 - 0 1");
        // A drill taken later may come first in its slot and leave the farther engine to one that was taken before it.
        DrillPlanner far = edges.planner("node a;node b;road a b 30;station s at a;station t at b;engine p pump at t;engine q pump at s;"
                + "drill x at a lasts 1 needs 1 pump;drill y at a lasts 1 needs 1 pump;");
        scheduled(far, 12, 2, " 0 0");
        edges.same("drill 0 took the nearer one", far.drillEngines(0) * 10 + far.drillEngines(1), 21);
        description("The list schedule does not exist if there is no such start for some drill.");
        DrillPlanner last = edges.planner(PUMP + "drill x at a lasts 8 needs 1 pump from 8;drill y at a lasts 7 needs 1 pump;"
                + "drill z at a lasts 1 needs 1 pump;drill v at a lasts 1 needs 1 ladder;");
        scheduled(last, 321, 24, " 8 16 23 -");
        scheduled(last, 312, 17, " 8 0 16 -");
        scheduled(last, 4, -1, " 8 0 16 -");
        scheduled(last, 41, -1, " 8 0 16 -");
        scheduled(last, 14, -1, " 8 0 16 -");
        DrillPlanner late = edges.planner(PUMP + "drill x at a lasts 8 needs 1 pump from 8;drill y at a lasts 8 needs 1 pump;"
                + "drill z at a lasts 1 needs 1 pump;");
        scheduled(late, 21, 24, " 8 16 -");
        scheduled(late, 321, -1, " 8 16 -");
        description("Its finish is the greatest end of its drills, 0 without drills.");
        scheduled(late, 0, 0, " - - -");
        DrillPlanner longest = edges.planner(PUMP + "engine q pump at s;drill x at a lasts 8 needs 1 pump;drill y at a lasts 1 needs 1 pump;");
        scheduled(longest, 21, 8, " 0 0");
        edges.same("never covered, no drills", edges.planner("node a;street a within 0;drill x at a lasts 1 needs 1 pump;").schedule(0), 0);
    }

    private void bestOrders() {
        description("The best order is the order of all drills whose list schedule has the smallest finish; of several, the lexicographically "
                + "smallest sequence of drill numbers.");
        best("equal orders", TWO, 6, 21);
        best("a smaller finish of a greater order", PUMP + "drill x at a lasts 1 needs 1 pump from 4;drill y at a lasts 4 needs 1 pump;", 5, 12);
        best("the first drill decides, not the last one", PUMP + "drill x at a lasts 1 needs 1 pump;drill y at a lasts 1 needs 1 pump;"
                + "drill z at a lasts 1 needs 1 pump after y;", 3, 321);
        best("0, 2, 1 before 1, 0, 2", PUMP + "drill x at a lasts 1 needs 1 pump;drill y at a lasts 1 needs 1 pump from 2;"
                + "drill z at a lasts 1 needs 1 pump;", 3, 231);
        best("only the last order", PUMP + "drill x at a lasts 1 needs 1 pump from 4;drill y at a lasts 1 needs 1 pump from 3;"
                + "drill z at a lasts 1 needs 1 pump from 2;drill v at a lasts 1 needs 1 pump from 1;drill w at a lasts 1 needs 1 pump;",
                5, 12345);
        best("orders that do not exist", PUMP + "drill x at a lasts 8 needs 1 pump from 16;drill y at a lasts 8 needs 1 pump from 8;"
                + "drill z at a lasts 8 needs 1 pump;", 24, 123);
    }

    private void best(String what, String text, int finish, int order) {
        DrillPlanner x = edges.planner(text);
        edges.same("bestFinish: " + what, x.bestFinish(), finish);
        edges.same("bestOrder: " + what, x.bestOrder(), order);
    }

    private void promise46() {
        edges.sentence("46", "Finds the smallest start of a drill with which the timetable is valid, the starts of all other drills being as "
                + "they are.");
        DrillPlanner x = edges.planner(TWO);
        edges.same("without a start", x.earliestStart(0), 0);
        x.setStart(0, 9);
        edges.same("with a start", x.earliestStart(0), 0);
        edges.same("before the other one", x.earliestStart(1), 0);
        x.setStart(1, 3);
        edges.same("behind the other one", x.earliestStart(0), 4);
        x.setStart(1, 5);
        edges.same("just before the other one", x.earliestStart(0), 0);
        x.setStart(0, 5);
        edges.same("a timetable that is not valid is cured", x.earliestStart(0) * 10 + x.earliestStart(1), 0);
        edges.same("starts stay", Edges.starts(x), " 5 5");
        edges.same("no edit", x.undo(), 3);
        // What was searched for before, with other engines and hoses, does not count.
        DrillPlanner y = edges.planner(WET.replace("#", "4"));
        y.bestFinishWith(40, 12);
        y.setStart(0, 0);
        edges.same("the own hoses", y.earliestStart(1), 9);
        y.bestFinishWithout(1);
        edges.same("the own engines", y.earliestStart(0), 0);
        y.setStart(1, 0);
        edges.same("with both engines", y.earliestStart(0), 9);
        DrillPlanner ladder = edges.planner(PUMP + "engine l ladder at s;drill x at a lasts 1 needs 1 ladder;");
        ladder.bestFinishWithout(1);
        edges.same("the ladder is there", ladder.earliestStart(0), 0);
        DrillPlanner five = edges.planner(PUMP + "drill v at a lasts 1 needs 1 pump;drill w at a lasts 1 needs 1 pump;"
                + "drill x at a lasts 1 needs 1 pump;drill y at a lasts 1 needs 1 pump;drill z at a lasts 1 needs 1 pump;");
        five.setStart(4, 0);
        edges.same("the last drill's start counts", five.earliestStart(0), 1);
        edges.same("but not for itself", five.earliestStart(4), 0);
    }

    private void promise46Edges() {
        edges.sentence("46", "Returns the start; -1 if there is none.");
        DrillPlanner x = edges.planner(PUMP + "drill x at a lasts 2 needs 1 pump from 21;drill y at a lasts 1 needs 1 pump after x;"
                + "drill z at a lasts 1 needs 1 ladder;drill v at a lasts 1 needs 1 pump from 23;");
        edges.same("the last start", x.earliestStart(3), 23);
        edges.same("without the drill before it", x.earliestStart(1), -1);
        x.setStart(0, 21);
        edges.same("behind it at 23", x.earliestStart(1), 23);
        x.setStart(0, 22);
        edges.same("24 is no start", x.earliestStart(1), -1);
        edges.same("no engine", x.earliestStart(2), -1);
        x.setStart(2, 0);
        edges.same("another drill is cancelled", x.earliestStart(0), -1);
        edges.same("the timetable stays", x.violations(), 1);
        edges.same("never covered", edges.planner(PUMP + "street a within 0 ladder;drill x at a lasts 1 needs 1 pump;").earliestStart(0), -1);
        // In the slot in which the ladder is back at t, the pump that has moved there is at its home station again.
        DrillPlanner back = edges.planner("node a;node b;station s at a;station t at b;engine p pump at s;engine q pump at s;"
                + "engine l ladder at t;street b within 0 pump;drill x at b lasts 1 needs 1 ladder;");
        edges.same("uncovered but while the drill lasts", back.earliestStart(0), -1);
        DrillPlanner first = edges.planner("node a;node b;station s at a;station t at b;engine l ladder at t;engine p pump at s;"
                + "engine q pump at s;street b within 0 pump;drill x at b lasts 1 needs 1 ladder;");
        edges.same("the same with the smallest number", first.earliestStart(0), -1);
        // A street that only the engine on its way home leaves open, up to the slot before it is back.
        DrillPlanner way = edges.planner("node a;node b;road a b 60;station s at a;engine p pump at s;engine l ladder at s;"
                + "street a within 0 ladder;drill x at b lasts 1 needs 1 ladder;drill y at b lasts 1 needs 1 pump;");
        edges.same("uncovered while away", way.earliestStart(0), -1);
        edges.same("nobody needs the pump", way.earliestStart(1), 0);
        edges.sentence("46", "Throws IndexOutOfBoundsException if drill is out of range");
        edges.onlyIndexes("earliestStart", 4, x::earliestStart);
        edges.onlyIndexes("earliestStart of five", 5, Full.busy()::earliestStart);
        edges.onlyIndexes("earliestStart of none", 0, new DrillPlanner()::earliestStart);
    }

    private void promise47() {
        edges.sentence("47", "In a pass, each drill with a start, in ascending order of the numbers, gets the smallest start with which the "
                + "timetable is valid (earliestStart).");
        DrillPlanner x = edges.planner(PUMP + "drill w at a lasts 2 needs 1 pump;drill x at a lasts 1 needs 1 pump;"
                + "drill y at a lasts 1 needs 1 pump;");
        x.setStart(0, 9);
        x.setStart(2, 5);
        edges.same("drill 0 comes first", x.compact() + Edges.starts(x), "2 0 - 2");
        DrillPlanner five = edges.planner(PUMP + "drill v at a lasts 1 needs 1 pump;drill w at a lasts 1 needs 1 pump;"
                + "drill x at a lasts 1 needs 1 pump;drill y at a lasts 1 needs 1 pump;drill z at a lasts 1 needs 1 pump;");
        for (int drill = 0; drill < 5; drill++) {
            five.setStart(drill, 23 - drill);
        }
        edges.same("five drills", five.compact() + Edges.starts(five), "5 0 1 2 3 4");
        edges.same("the timetable follows", five.drillBegin(4) * 100 + five.finish() * 10 + five.awaySlots(0), 455);
        DrillPlanner wet = edges.planner(WET.replace("#", "4"));
        wet.setStart(0, 2);
        wet.setStart(1, 20);
        wet.bestFinishWith(40, 12);
        edges.same("with the own hoses", wet.compact() + Edges.starts(wet), "2 0 9");
        DrillPlanner two = edges.planner(PUMP + "engine q pump at s;drill x at a lasts 3 needs 2 pump;drill y at a lasts 1 needs 1 pump;");
        two.setStart(0, 2);
        two.setStart(1, 9);
        two.bestFinishWithout(0);
        edges.same("with the own engines", two.compact() + Edges.starts(two), "2 0 3");
        edges.sentence("47", "Passes are made until one changes no start.");
        DrillPlanner y = edges.planner(TWO);
        y.setStart(0, 4);
        y.setStart(1, 3);
        edges.same("two passes with a change", y.compact() + Edges.starts(y), "2 1 0");
        // Each pass moves the long drills only as far as those allow that it has not moved yet: 14, 6, 0; then 13, 1; then 8.
        DrillPlanner z = edges.planner(PUMP + "drill x at a lasts 8 needs 1 pump;drill y at a lasts 7 needs 1 pump;"
                + "drill z at a lasts 1 needs 1 pump;");
        z.setStart(0, 15);
        z.setStart(1, 7);
        z.setStart(2, 5);
        edges.same("three passes with a change", z.compact() + Edges.starts(z), "6 8 1 0");
        edges.sentence("47", "This is an edit, even if no start changes.");
        edges.same("no change", y.compact(), 0);
        edges.same("undo", y.undo(), 3);
        edges.same("the same starts", Edges.starts(y), " 1 0");
        edges.same("undo of the change", y.undo() + Edges.starts(y), "2 4 3");
        DrillPlanner none = new DrillPlanner();
        edges.same("no drills", none.compact(), 0);
        edges.same("undo without drills", none.undo(), 0);
        edges.sentence("47", "Returns how many times a start was changed; -1, with no change, if the timetable is not valid.");
        DrillPlanner never = edges.planner(NEVER);
        edges.same("no starts", never.compact(), 0);
        never.setStart(0, 5);
        never.setStart(1, 9);
        edges.same("a cancelled drill", never.compact(), -1);
        edges.same("no change", Edges.starts(never), " 5 9");
        edges.same("no edit", never.undo() + Edges.starts(never), "2 5 -");
        edges.same("valid again", never.compact() + Edges.starts(never), "1 0 -");
        DrillPlanner open = edges.planner("node a;street a within 1;");
        edges.same("an uncovered street", open.compact(), -1);
        edges.same("no edit", open.undo(), -1);
        edges.changesNothing("compact", Full::busy, DrillPlanner::compact);
        edges.same("with a violation", Full.busy().compact(), -1);
    }

    private void promise48() {
        edges.sentence("48", "Makes the list schedule of an order of some drills the timetable; all other drills get no start.");
        DrillPlanner x = Full.busy();
        scheduled(x, 5, -1, " 0 5 1 - 12");
        scheduled(x, 4, 5, " - - - 2 -");
        scheduled(x, 54321, 16, " 0 2 6 6 9");
        scheduled(x, 35421, 12, " 0 2 6 2 5");
        edges.same("the timetable follows", x.drillEnd(2) * 100 + x.finish(), 812);
        edges.sentence("48", "This is an edit.");
        edges.same("undo", x.undo() + Edges.starts(x), "7 0 2 6 6 9");
        edges.same("the timetable follows", x.finish(), 16);
        DrillPlanner none = new DrillPlanner();
        edges.same("of no drills", none.schedule(0), 0);
        edges.same("undo of no drills", none.undo(), 0);
        edges.same("no more", none.undo(), -1);
        edges.sentence("48", "Returns the finish; -1, with no change, if the list schedule does not exist.");
        DrillPlanner never = edges.planner(NEVER);
        never.setStart(0, 7);
        edges.same("does not exist", never.schedule(2), -1);
        edges.same("the second drill has no start", never.schedule(21), -1);
        edges.same("no change", Edges.starts(never), " 7 -");
        edges.same("no edit", never.undo(), 0);
        edges.same("of no drills", never.schedule(0), 0);
        edges.same("of one drill", never.schedule(1), 1);
        edges.changesNothing("schedule", Full::busy, y -> y.schedule(5));
        edges.same("never covered", edges.planner(PUMP + "street a within 0 ladder;drill x at a lasts 1 needs 1 pump;").schedule(1), -1);
        // The engines and hoses are those of the brigade, whatever was asked for before.
        DrillPlanner wet = edges.planner(WET.replace("#", "4"));
        wet.bestFinishWith(40, 12);
        scheduled(wet, 21, 10, " 0 9");
        wet.bestFinishWithout(0);
        scheduled(wet, 12, 10, " 9 0");
    }

    private void promise48Orders() {
        edges.sentence("48", "order: the drills as decimal digits, the first drill as the digit of the units, each drill number increased by 1; "
                + "0 for no drills; for example 213 for the drills 2, 0, 1");
        DrillPlanner x = edges.planner(PUMP + "drill x at a lasts 1 needs 1 pump;drill y at a lasts 2 needs 1 pump;"
                + "drill z at a lasts 4 needs 1 pump;");
        scheduled(x, 213, 7, " 4 5 0");
        scheduled(x, 3, 4, " - - 0");
        scheduled(x, 123, 7, " 6 4 0");
        scheduled(x, 321, 7, " 0 1 3");
        scheduled(x, 0, 0, " - - -");
        DrillPlanner five = edges.planner(Full.TEXT);
        edges.same("five digits", five.schedule(54321), 16);
        edges.sentence("48", "Throws IllegalArgumentException if order is negative");
        for (int wrong : new int[] {-1, -2, -21, Integer.MIN_VALUE}) {
            edges.throwsArgument("schedule " + wrong, () -> x.schedule(wrong));
        }
        edges.sentence("48", "a digit stands for no drill (0 between other digits included)");
        for (int wrong : new int[] {4, 9, 41, 14, 10, 20, 100, 102, 201, 1002, 210, 3210, 1000000000, 2000000001}) {
            edges.throwsArgument("schedule " + wrong, () -> x.schedule(wrong));
        }
        edges.throwsArgument("a sixth drill", () -> five.schedule(6));
        edges.throwsArgument("six digits", () -> five.schedule(654321));
        edges.throwsArgument("of no drills", () -> new DrillPlanner().schedule(1));
        edges.sentence("48", "or a drill occurs twice");
        for (int wrong : new int[] {11, 22, 33, 121, 112, 211, 3213, 1321, Integer.MAX_VALUE}) {
            edges.throwsArgument("schedule " + wrong, () -> x.schedule(wrong));
        }
        edges.throwsArgument("a sixth digit", () -> five.schedule(154321));
        edges.throwsArgument("ten digits", () -> five.schedule(1543215432));
        edges.same("no change", Edges.starts(x), " - - -");
    }

    private void promises49And50() {
        edges.sentence("49", "Returns the smallest finish of a list schedule of all drills.");
        DrillPlanner only = edges.planner(PUMP + "drill x at a lasts 1 needs 1 pump from 9;drill y at a lasts 1 needs 1 pump;");
        edges.same("not of some drills", only.bestFinish(), 10);
        edges.same("not of the first order", edges.planner(PUMP + "engine l ladder at s;drill x at a lasts 1 needs 1 pump from 4;"
                + "drill y at a lasts 6 needs 1 ladder;").bestFinish(), 6);
        edges.sentence("49", "Returns the finish of the best order; -1 if no order has a list schedule.");
        edges.same("of the better order", edges.planner(PUMP + "drill x at a lasts 1 needs 1 pump from 4;"
                + "drill y at a lasts 4 needs 1 pump;").bestFinish(), 5);
        edges.same("one drill without an engine", edges.planner(NEVER).bestFinish(), -1);
        edges.same("too late", edges.planner(PUMP + "drill x at a lasts 1 needs 1 pump from 23;"
                + "drill y at a lasts 1 needs 1 pump after x;").bestFinish(), -1);
        edges.same("too many", edges.planner(PUMP + "drill w at a lasts 8 needs 1 pump;drill x at a lasts 8 needs 1 pump;"
                + "drill y at a lasts 8 needs 1 pump;drill z at a lasts 1 needs 1 pump after w,x,y;").bestFinish(), -1);
        edges.same("never covered", edges.planner(PUMP + "street a within 0;drill x at a lasts 1 needs 1 pump;").bestFinish(), -1);
        edges.same("no drills", new DrillPlanner().bestFinish(), 0);
        edges.same("no drills, never covered", edges.planner("node a;street a within 0;").bestFinish(), 0);
        edges.same("five drills", edges.planner(Full.TEXT).bestFinish(), 12);
        edges.sentence("50", "Returns the order as schedule() takes it, 0 without drills; -1 if no order has a list schedule.");
        edges.same("no drills", new DrillPlanner().bestOrder(), 0);
        edges.same("no drills, never covered", edges.planner("node a;street a within 0;").bestOrder(), 0);
        edges.same("one drill", edges.planner(PUMP + "drill x at a lasts 1 needs 1 pump;").bestOrder(), 1);
        edges.same("no list schedule", edges.planner(NEVER).bestOrder(), -1);
        DrillPlanner full = edges.planner(Full.TEXT);
        edges.same("five drills", full.bestOrder(), 35421);
        edges.same("as schedule takes it", full.schedule(full.bestOrder()), full.bestFinish());
        DrillPlanner after = edges.planner(NEVER);
        edges.same("no starts without a list schedule", after.bestOrder() + Edges.starts(after), "-1 - -");
        edges.same("other hoses do not count", otherHoses().bestOrder(), -1);
        edges.same("other hoses do not count", otherHoses().bestFinish(), -1);
        DrillPlanner started = edges.planner(TWO);
        started.setStart(0, 9);
        started.setStart(1, 3);
        started.earliestStart(0);
        edges.same("starts do not count", started.bestOrder(), 21);
        started.earliestStart(1);
        edges.same("for the finish neither", started.bestFinish(), 6);
        edges.changesNothing("bestFinish", Full::busy, DrillPlanner::bestFinish);
        edges.changesNothing("bestOrder", Full::busy, DrillPlanner::bestOrder);
    }

    private DrillPlanner otherHoses() {
        DrillPlanner x = edges.planner(PUMP + "drill x at a lasts 1 needs 1 pump hose 1;");
        edges.same("with a length", x.bestFinishWith(1, 1), 1);
        return x;
    }

    private void promise51() {
        edges.sentence("51", "Returns the finish; -1 if no order has a list schedule.");
        DrillPlanner x = edges.planner(PUMP + "engine q pump at s;engine l ladder at s;street a within 0 ladder;"
                + "drill x at a lasts 2 needs 1 pump;drill y at a lasts 3 needs 1 pump;");
        edges.same("one pump is left", x.bestFinishWithout(0), 5);
        edges.same("the other one", x.bestFinishWithout(1), 5);
        edges.same("no cover", x.bestFinishWithout(2), -1);
        edges.same("no engine", edges.planner(TWO).bestFinishWithout(0), -1);
        edges.same("no drills", edges.planner(PUMP).bestFinishWithout(0), 0);
        edges.same("no drills, no cover", edges.planner(PUMP + "street a within 0;").bestFinishWithout(0), 0);
        DrillPlanner full = edges.planner(Full.TEXT);
        edges.same("without the only rescue engine", full.bestFinishWithout(9), -1);
        edges.same("without a ladder", full.bestFinishWithout(4), 12);
        edges.sentence("51", "Returns what bestFinish() would be if an engine did not exist for drills and cover, all else being as it is.");
        edges.same("with all", x.bestFinish(), 3);
        edges.same("still available", x.availableAt(0), 7);
        DrillPlanner moved = edges.planner("node a;node b;station s at a;station t at b;engine p pump at s;engine q pump at s;"
                + "engine r pump at s;engine l ladder at t;street b within 0 pump;drill x at a lasts 1 needs 1 pump;");
        edges.same("covered by a move only without l", moved.bestFinish() * 10 + moved.bestFinishWithout(3), -9);
        edges.changesNothing("bestFinishWithout", Full::busy, y -> y.bestFinishWithout(0));
        edges.sentence("51", "Throws IndexOutOfBoundsException if engine is out of range");
        edges.onlyIndexes("bestFinishWithout", 3, x::bestFinishWithout);
        edges.onlyIndexes("bestFinishWithout of ten", 10, full::bestFinishWithout);
        edges.onlyIndexes("bestFinishWithout of none", 0, new DrillPlanner()::bestFinishWithout);
    }

    private void promise52() {
        DrillPlanner x = edges.planner(WET.replace("#", "40"));
        edges.sentence("52", "Returns the finish; -1 if no order has a list schedule.");
        edges.same("as it is", x.bestFinishWith(40, 1), -1);
        edges.same("places enough", x.bestFinishWith(40, 12), 10);
        edges.same("a length too few", x.bestFinishWith(39, 12), -1);
        edges.same("no drills", edges.planner(PUMP).bestFinishWith(0, 1), 0);
        DrillPlanner four = edges.planner(WET.replace("#", "4"));
        edges.same("more lengths", four.bestFinishWith(8, 1), 1);
        edges.same("a length too few for both at once", four.bestFinishWith(7, 1), 4);
        edges.same("two places", four.bestFinishWith(4, 2), 6);
        edges.same("the own lengths and places", four.bestFinish(), 10);
        edges.same("the own lengths", four.dryHoses(0), 4);
        edges.changesNothing("bestFinishWith", Full::busy, y -> y.bestFinishWith(0, 12));
        edges.sentence("52", "lengths: hose lengths, 0 to 40");
        edges.same("0", edges.planner(PUMP + "drill x at a lasts 1 needs 1 pump;").bestFinishWith(0, 1), 1);
        edges.same("40", edges.planner(PUMP + "drill x at a lasts 1 needs 1 pump hose 40;").bestFinishWith(40, 1), 1);
        edges.sentence("52", "racks: rack places, 1 to 12");
        DrillPlanner dozen = edges.planner(WET.replace("#", "12"));
        edges.same("1", edges.planner(WET.replace("#", "2")).bestFinishWith(2, 1), 6);
        edges.same("11", dozen.bestFinishWith(12, 11), 6);
        edges.same("12", dozen.bestFinishWith(12, 12), 4);
        edges.sentence("52", "Throws IllegalArgumentException if lengths or racks is out of range");
        for (int wrong : new int[] {-1, 41, Integer.MIN_VALUE, Integer.MAX_VALUE}) {
            edges.throwsArgument("bestFinishWith lengths " + wrong, () -> x.bestFinishWith(wrong, 1));
        }
        for (int wrong : new int[] {0, 13, -1, 40, Integer.MIN_VALUE, Integer.MAX_VALUE}) {
            edges.throwsArgument("bestFinishWith racks " + wrong, () -> x.bestFinishWith(40, wrong));
        }
        edges.throwsArgument("bestFinishWith both", () -> x.bestFinishWith(41, 13));
    }

    private void promise53() {
        edges.sentence("53", "Finds the fewest rack places with which bestFinish() would be what it is with 12 rack places.");
        edges.same("a place for each length", edges.planner(WET.replace("#", "4")).enoughRacks(), 4);
        edges.same("the own places do not count", edges.planner(WET.replace("#", "4").replace("racks 1", "racks 2")).enoughRacks(), 4);
        edges.same("two turns", edges.planner(WET.replace("#", "13")).enoughRacks(), 7);
        // Places help no more where all lengths are dry in time.
        edges.same("time enough", edges.planner(PUMP + "hoses 4 dry 2 racks 1;drill x at a lasts 1 needs 1 pump hose 4;"
                + "drill y at a lasts 1 needs 1 pump hose 4 from 5;").enoughRacks(), 2);
        edges.sentence("53", "Returns the number of rack places, 1 to 12; -1 if no order has a list schedule with 12 rack places.");
        edges.same("1", edges.planner(WET.replace("#", "1")).enoughRacks(), 1);
        edges.same("no hoses used", edges.planner(TWO).enoughRacks(), 1);
        edges.same("no drills", new DrillPlanner().enoughRacks(), 1);
        edges.same("11", edges.planner(WET.replace("#", "11")).enoughRacks(), 11);
        edges.same("12", edges.planner(WET.replace("#", "12")).enoughRacks(), 12);
        edges.same("12 of 24", edges.planner(WET.replace("#", "24")).enoughRacks(), 12);
        edges.same("only with more than 1", edges.planner(WET.replace("#", "40")).enoughRacks(), 10);
        edges.same("none with 12", edges.planner(NEVER).enoughRacks(), -1);
        edges.same("too few lengths", edges.planner(PUMP + "drill x at a lasts 1 needs 1 pump hose 1;").enoughRacks(), -1);
        edges.changesNothing("enoughRacks", Full::busy, DrillPlanner::enoughRacks);
    }
}
