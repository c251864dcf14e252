/** The edges that the document names for starts, timetables and hoses: promises 25 to 45. */
final class TimetableEdges {
    private static final String PUMPS = "node a;station s at a;engine p pump at s;engine q pump at s;";
    /** Two drills that need a pump each, and one that needs three. */
    private static final String THREE = PUMPS + "drill x at a lasts 2 needs 1 pump;drill y at a lasts 3 needs 1 pump;"
            + "drill z at a lasts 1 needs 3 pump;";
    /** While the only pump is away, no street is covered. */
    private static final String ALONE = "node a;node b;road a b 30;station s at a;engine p pump at s;street b within 30;"
            + "street a within 0;drill x at b lasts 2 needs 1 pump;drill y at a lasts 1 needs 2 pump;";

    private final Edges edges;

    TimetableEdges(Edges edges) {
        this.edges = edges;
    }

    void run() {
        processing();
        early();
        order();
        engines();
        hosesCondition();
        choice();
        times();
        violationsOfTimetables();
        hoses();
        refusedCalls();
        slotParameters();
        promise25();
        promises26And27();
        promise28();
        promise29();
        promises30To33();
        promises34To37();
        promises38And39();
        promises40To42();
        promises43To45();
    }

    private void description(String quote) {
        edges.sentence(Document.DESCRIPTION, quote);
    }

    private void processing() {
        description("Each drill may have a start, a slot from 0 to 23.");
        DrillPlanner x = edges.planner(THREE);
        x.setStart(0, 0);
        x.setStart(1, 23);
        edges.same("both take place", x.drillState(0) + x.drillState(1), 2);
        edges.same("at 0", x.drillBegin(0), 0);
        edges.same("at 23", x.drillBegin(1), 23);
        description("processed in ascending order of their starts, for equal starts in ascending order of their numbers.");
        DrillPlanner one = edges.planner("node a;station s at a;engine p pump at s;drill x at a lasts 2 needs 1 pump;"
                + "drill y at a lasts 2 needs 1 pump;");
        one.setStart(1, 4);
        one.setStart(0, 4);
        edges.same("equal starts", one.drillState(0) * 10 + one.drillState(1), 7);
        one.setStart(0, 5);
        edges.same("the smaller start", one.drillState(0) * 10 + one.drillState(1), -29);
        one.setStart(1, 6);
        edges.same("the other one", one.drillState(0) * 10 + one.drillState(1), 7);
        DrillPlanner five = edges.planner(fiveDrills());
        for (int drill = 4; drill >= 0; drill--) {
            five.setStart(drill, 7);
        }
        edges.same("the last of five comes last", five.drillState(3) * 10 + five.drillState(4), 7);
        five.setStart(4, 6);
        edges.same("but not with a smaller start", five.drillState(3) * 10 + five.drillState(4), -29);
    }

    /** Five drills that need one of four pumps each. */
    private static String fiveDrills() {
        StringBuilder text = new StringBuilder(PUMPS + "engine r pump at s;engine t pump at s;");
        for (char name = 'f'; name <= 'j'; name++) {
            text.append("drill ").append(name).append(" at a lasts 2 needs 1 pump;");
        }
        return text.toString();
    }

    private void early() {
        description("EARLY, its start is before its \"from\" slot");
        DrillPlanner x = edges.planner(PUMPS + "drill x at a lasts 2 needs 1 pump from 5;drill y at a lasts 2 needs 1 pump from 0;"
                + "drill z at a lasts 2 needs 1 pump from 23;");
        state(x, 0, 4, -DrillPlanner.EARLY);
        state(x, 0, 5, 1);
        state(x, 1, 0, 1);
        state(x, 2, 22, -DrillPlanner.EARLY);
        state(x, 2, 23, 1);
        description("which are checked in this order: EARLY");
        DrillPlanner y = edges.planner(PUMPS + "drill x at a lasts 2 needs 1 pump;drill y at a lasts 2 needs 3 pump hose 9 after x from 5;");
        state(y, 1, 4, -DrillPlanner.EARLY);
        state(y, 1, 5, -DrillPlanner.ORDER);
        y.setStart(0, 0);
        state(y, 1, 1, -DrillPlanner.EARLY);
        state(y, 1, 5, -DrillPlanner.ENGINES);
        DrillPlanner z = edges.planner(PUMPS + "drill x at a lasts 2 needs 2 pump hose 9;drill y at a lasts 2 needs 3 pump hose 9;");
        state(z, 0, 0, -DrillPlanner.HOSES);
        state(z, 1, 0, -DrillPlanner.ENGINES);
    }

    private void state(DrillPlanner x, int drill, int slot, int want) {
        x.setStart(drill, slot);
        edges.same("drill " + drill + " at " + slot, x.drillState(drill), want);
    }

    private void order() {
        String text = PUMPS + "drill x at a lasts 2 needs 1 pump from 1;drill y at a lasts 1 needs 1 pump after x;"
                + "drill z at a lasts 1 needs 1 pump after x,y;";
        DrillPlanner x = edges.planner(text);
        description("ORDER, a drill of its \"after\" list has no start");
        state(x, 1, 5, -DrillPlanner.ORDER);
        description("is cancelled");
        x.setStart(0, 0);
        state(x, 1, 5, -DrillPlanner.ORDER);
        description("or has not been processed yet");
        x.setStart(0, 6);
        state(x, 1, 5, -DrillPlanner.ORDER);
        description("or does not end by the start (its end is greater than the start)");
        x.setStart(0, 5);
        state(x, 1, 5, -DrillPlanner.ORDER);
        x.setStart(0, 4);
        state(x, 1, 5, -DrillPlanner.ORDER);
        x.setStart(0, 3);
        state(x, 1, 5, 1);
        description("a drill of its \"after\" list");
        state(x, 2, 5, -DrillPlanner.ORDER);
        state(x, 2, 6, 1);
        x.setStart(0, 5);
        edges.same("a cancelled drill cancels the next one", x.drillState(1) * 10 + x.drillState(2), -22);
        // A drill on its way back has ended.
        DrillPlanner far = edges.planner("node a;node b;road a b 60;station s at a;engine p pump at s;engine q pump at s;"
                + "drill x at b lasts 1 needs 1 pump;drill y at a lasts 1 needs 1 pump after x;");
        far.setStart(0, 0);
        state(far, 1, 2, -DrillPlanner.ORDER);
        state(far, 1, 3, 1);
        DrillPlanner five = edges.planner(fiveDrills().replace("drill j at a lasts 2 needs 1 pump;",
                "drill j at a lasts 2 needs 1 pump after f,g,h,i;"));
        five.schedule(4321);
        state(five, 4, 1, -DrillPlanner.ORDER);
        state(five, 4, 2, 1);
        five.setStart(3, 3);
        edges.same("the last of four", five.drillState(4), -DrillPlanner.ORDER);
        state(five, 4, 5, 1);
        five.setStart(0, -1);
        edges.same("the first of four", five.drillState(4), -DrillPlanner.ORDER);
    }

    private void engines() {
        description("ENGINES, for some kind that it needs, there are not enough engines of this kind");
        String kinds = "node a;station s at a;engine p pump at s;engine q pump at s;engine l ladder at s;engine r rescue at s;";
        DrillPlanner x = edges.planner(kinds + "drill x at a lasts 1 needs 2 pump;drill y at a lasts 1 needs 3 pump;"
                + "drill z at a lasts 1 needs 1 pump,2 ladder;drill v at a lasts 1 needs 1 ladder,2 pump,2 rescue;"
                + "drill w at a lasts 1 needs 1 rescue,2 pump,1 ladder;");
        state(x, 1, 3, -DrillPlanner.ENGINES);
        state(x, 2, 3, -DrillPlanner.ENGINES);
        state(x, 3, 3, -DrillPlanner.ENGINES);
        state(x, 4, 3, 1);
        state(x, 0, 5, 1);
        edges.same("none at all", stateAt("node a;drill x at a lasts 1 needs 1 rescue;", 0), -DrillPlanner.ENGINES);
        description("which are not away in the start slot");
        DrillPlanner away = edges.planner("node a;node b;road a b 30;station s at a;engine p pump at s;drill x at b lasts 2 needs 1 pump;"
                + "drill y at a lasts 1 needs 1 pump;");
        away.setStart(0, 2);
        state(away, 1, 1, 1);
        edges.same("away until the slot before", away.drillState(0), 1);
        state(away, 1, 5, -DrillPlanner.ENGINES);
        state(away, 1, 6, 1);
        state(away, 1, 2, -DrillPlanner.ENGINES);
        description("and whose travel slots to the drill's node are at most 6");
        String far = "slot 10;node a;node b;node c;road a b 60;road b c 1;station s at a;engine p pump at s;";
        edges.same("six", stateAt(far + "drill x at b lasts 1 needs 1 pump;", 0), 1);
        edges.same("seven", stateAt(far + "drill x at c lasts 1 needs 1 pump;", 0), -DrillPlanner.ENGINES);
        edges.same("no way", stateAt(far + "node i;drill x at i lasts 1 needs 1 pump;", 0), -DrillPlanner.ENGINES);
        edges.same("one of two is too far", stateAt(far + "station t at c;engine q pump at t;drill x at c lasts 1 needs 2 pump;", 0),
                -DrillPlanner.ENGINES);
    }

    private int stateAt(String text, int slot) {
        DrillPlanner x = edges.planner(text);
        x.setStart(0, slot);
        return x.drillState(0);
    }

    private void hosesCondition() {
        description("HOSES, fewer hose lengths than it uses are dry in the start slot, after what earlier processed drills took.");
        DrillPlanner x = edges.planner(PUMPS + "hoses 5 dry 1 racks 12;drill x at a lasts 1 needs 1 pump hose 3;"
                + "drill y at a lasts 1 needs 1 pump hose 2;drill z at a lasts 1 needs 1 pump hose 3;");
        x.setStart(0, 0);
        state(x, 1, 0, 1);
        state(x, 1, -1, 0);
        state(x, 2, 0, -DrillPlanner.HOSES);
        state(x, 2, 1, -DrillPlanner.HOSES);
        state(x, 2, 2, 1);
        edges.same("no hoses needed of none", stateAt(PUMPS + "drill x at a lasts 1 needs 1 pump;", 0), 1);
        edges.same("one needed of none", stateAt(PUMPS + "drill x at a lasts 1 needs 1 pump hose 1;", 0), -DrillPlanner.HOSES);
        edges.same("40 of 40", stateAt(PUMPS + "hoses 40 dry 1 racks 1;drill x at a lasts 1 needs 1 pump hose 40;", 0), 1);
        edges.same("40 of 39", stateAt(PUMPS + "hoses 39 dry 1 racks 1;drill x at a lasts 1 needs 1 pump hose 40;", 0), -DrillPlanner.HOSES);
        description("A drill that is cancelled takes nothing.");
        DrillPlanner y = edges.planner(PUMPS + "hoses 5 dry 1 racks 1;drill v at a lasts 1 needs 3 pump hose 5;"
                + "drill w at a lasts 1 needs 2 pump hose 6;drill x at a lasts 1 needs 2 pump hose 5;");
        state(y, 0, 3, -DrillPlanner.ENGINES);
        state(y, 1, 3, -DrillPlanner.HOSES);
        edges.same("no engines", y.availableAt(3), 3);
        edges.same("no hoses", y.dryHoses(3), 5);
        state(y, 2, 3, 1);
        edges.same("all engines are left for the next one", y.drillEngines(2), 3);
        edges.same("all hoses too", y.dryHoses(3), 0);
    }

    private void choice() {
        description("the required number of those engines with the smallest travel time from their home station to the node, on a tie the "
                + "smallest number.");
        // All have two travel slots; the travel times are 32, 32, 31 and 60 minutes.
        String row = "node a;node b;node c;node d;road a b 32;road c b 31;road d b 60;station s at a;station t at c;station u at d;"
                + "engine p pump at u;engine q pump at s;engine r pump at s;engine v pump at t;engine w ladder at t;";
        int[] want = {8, 10, 14, 15};
        for (int needed = 1; needed <= 4; needed++) {
            edges.same(needed + " of four", enginesOf(row + "drill x at b lasts 1 needs " + needed + " pump;"), want[needed - 1]);
        }
        edges.same("of two kinds", enginesOf(row + "drill x at b lasts 1 needs 1 ladder,1 pump;"), 24);
        StringBuilder five = new StringBuilder(row);
        for (char name = 'f'; name <= 'j'; name++) {
            five.append("drill ").append(name).append(" at b lasts 1 needs 1 ").append(name == 'h' ? "ladder;" : "pump;");
        }
        DrillPlanner fifth = edges.planner(five.toString());
        for (int drill = 0; drill < 5; drill++) {
            fifth.setStart(drill, 0);
        }
        edges.same("each drill has its row", fifth.drillEngines(0) + "," + fifth.drillEngines(1) + "," + fifth.drillEngines(2) + ","
                + fifth.drillEngines(3) + "," + fifth.drillEngines(4), "8,2,16,4,1");
        fifth.setStart(0, 6);
        fifth.setStart(1, 12);
        fifth.setStart(2, 18);
        edges.same("the fifth drill too", fifth.drillEngines(3) * 10 + fifth.drillEngines(4), 82);
        edges.same("an equal time of the last engine", enginesOf(tenPumps() + "drill x at a lasts 1 needs 4 pump;"), 15);
        DrillPlanner last = edges.planner(tenPumps() + "drill x at a lasts 4 needs 4 pump;drill y at a lasts 1 needs 4 pump;"
                + "drill z at a lasts 1 needs 2 pump;drill v at a lasts 1 needs 1 pump;");
        for (int drill = 0; drill < 4; drill++) {
            last.setStart(drill, drill == 0 ? 2 : 3);
        }
        edges.same("the next four", last.drillEngines(1), 240);
        edges.same("the last two of ten", last.drillEngines(2), 768);
        edges.same("none is left", last.drillState(3), -DrillPlanner.ENGINES);
        // The nearer engine is away: the farther one is taken, although both are near enough.
        DrillPlanner far = edges.planner("node a;node b;road a b 30;station s at a;station t at b;engine p pump at s;engine q pump at t;"
                + "drill x at b lasts 3 needs 1 pump;drill y at b lasts 1 needs 1 pump;");
        far.setStart(0, 0);
        far.setStart(1, 2);
        edges.same("what is left", far.drillEngines(0) * 10 + far.drillEngines(1), 21);
    }

    private static String tenPumps() {
        StringBuilder text = new StringBuilder("node a;station s at a;");
        for (char name = 'a'; name <= 'j'; name++) {
            text.append("engine e").append(name).append(" pump at s;");
        }
        return text.toString();
    }

    private int enginesOf(String text) {
        DrillPlanner x = edges.planner(text);
        x.setStart(0, 0);
        return x.drillEngines(0);
    }

    private void times() {
        // Travel slots to b: 2 for p, 0 for q, 1 for l.
        String text = "slot 10;node a;node b;node c;road a b 20;road c b 10;station s at a;station t at b;station u at c;"
                + "engine p pump at s;engine q pump at t;engine l ladder at u;drill x at b lasts 3 needs 2 pump,1 ladder;"
                + "drill y at b lasts 1 needs 1 pump;drill z at b lasts 1 needs 1 pump;";
        DrillPlanner x = edges.planner(text);
        x.setStart(0, 4);
        description("All of them leave in the start slot.");
        edges.same("before", x.availableAt(3), 7);
        edges.same("the start slot", x.availableAt(4), 0);
        description("The drill begins at the start plus the greatest travel slots of its engines, and ends at the slot that is its beginning "
                + "plus its duration.");
        edges.same("begin", x.drillBegin(0), 6);
        edges.same("end", x.drillEnd(0), 9);
        x.setStart(0, -1);
        x.setStart(1, 4);
        edges.same("begin without a way", x.drillBegin(1), 4);
        edges.same("end without a way", x.drillEnd(1), 5);
        x.setStart(1, -1);
        x.setStart(0, 4);
        description("Each engine is back at the end plus its travel slots.");
        edges.same("p", x.awaySlots(0), 7);
        edges.same("q", x.awaySlots(1), 5);
        edges.same("l", x.awaySlots(2), 6);
        description("An engine is away in the slots from the start up to, but not including, the slot in which it is back.");
        int[] available = {7, 0, 0, 0, 0, 0, 2, 6, 7};
        for (int slot = 3; slot < 12; slot++) {
            edges.same("availableAt " + slot, x.availableAt(slot), available[slot - 3]);
        }
        description("It is available in all slots in which it is not away.");
        edges.same("slot 0", x.availableAt(0), 7);
        edges.same("slot 47", x.availableAt(47), 7);
        x.setStart(1, 9);
        edges.same("it leaves in the slot in which it is back", x.drillState(1) * 100 + x.drillEngines(1), 102);
        edges.same("two absences", x.awaySlots(1), 6);
        edges.same("away again", x.availableAt(9), 0);
        x.setStart(2, 10);
        edges.same("a third time", x.drillEngines(2), 2);
        DrillPlanner latest = edges.planner("slot 10;node a;node b;road a b 60;station s at a;engine p pump at s;"
                + "drill x at b lasts 8 needs 1 pump;");
        latest.setStart(0, 23);
        edges.same("latest begin", latest.drillBegin(0), 29);
        edges.same("latest end", latest.drillEnd(0), 37);
        edges.same("latest back", latest.drillBack(0), 43);
        edges.same("last slot away", latest.availableAt(42) * 10 + latest.availableAt(43), 1);
    }

    private void violationsOfTimetables() {
        description("each cancelled drill, in its start slot; and COVER for each slot in which, with the engines that are available then, a "
                + "street is not covered.");
        DrillPlanner never = edges.planner("node a;street a within 120;drill x at a lasts 1 needs 1 pump;");
        edges.same("each of 48 slots", never.violations(), 48);
        edges.same("the first", never.violationSlot(0) * 100 + never.violationCode(0) * 10 + never.violationSubject(0), 50);
        edges.same("the last", never.violationSlot(47) * 100 + never.violationCode(47) * 10 + never.violationSubject(47), 4750);
        never.setStart(0, 23);
        edges.same("and a cancelled drill", never.violations(), 49);
        edges.same("before COVER of its slot", never.violationCode(23) * 10 + never.violationCode(24), 35);
        DrillPlanner x = edges.planner(ALONE);
        x.setStart(0, 3);
        edges.same("while the engine is away", Edges.violations(x), "3.5.0 4.5.0 5.5.0 6.5.0");
        x.setStart(1, 4);
        edges.same("and a cancelled drill", Edges.violations(x), "3.5.0 4.3.1 4.5.0 5.5.0 6.5.0");
        StringBuilder rescue = new StringBuilder("node a;street a within 120;");
        for (char name = 'f'; name <= 'j'; name++) {
            rescue.append("drill ").append(name).append(" at a lasts 1 needs 1 rescue;");
        }
        DrillPlanner most = edges.planner(rescue.toString());
        for (int drill = 0; drill < 5; drill++) {
            most.setStart(drill, 23);
        }
        edges.same("most violations", most.violations(), 53);
        edges.same("the last of them", most.violationSlot(52) * 10 + most.violationCode(52), 475);
        description("Violations are ordered by slots; in one slot by their codes (EARLY, ORDER, ENGINES, HOSES, COVER), and then by the "
                + "number of the drill or street.");
        DrillPlanner y = edges.planner(PUMPS + "street a within 0 ladder;drill v at a lasts 1 needs 1 pump hose 1;"
                + "drill w at a lasts 1 needs 3 pump;drill x at a lasts 1 needs 1 pump after w;drill y at a lasts 1 needs 1 pump from 9;"
                + "drill z at a lasts 1 needs 3 pump;");
        for (int drill = 0; drill < 5; drill++) {
            y.setStart(drill, 2);
        }
        edges.same("all codes in slot 2", Edges.violations(y).split("3\\.5\\.0")[0], "0.5.0 1.5.0 2.1.3 2.2.2 2.3.1 2.3.4 2.4.0 2.5.0 ");
        y.setStart(0, 1);
        edges.same("a greater code in an earlier slot", Edges.violations(y).split("3\\.5\\.0")[0],
                "0.5.0 1.4.0 1.5.0 2.1.3 2.2.2 2.3.1 2.3.4 2.5.0 ");
        description("A timetable is valid if it has no violation.");
        DrillPlanner z = edges.planner(THREE);
        z.setStart(2, 0);
        edges.same("a cancelled drill", z.compact(), -1);
        z.setStart(2, -1);
        edges.same("none", z.compact(), 0);
        edges.same("a street at the end", edges.planner("node a;street a within 0;").compact(), -1);
    }

    private void hoses() {
        DrillPlanner x = edges.planner(PUMPS + "hoses 7 dry 2 racks 2;drill x at a lasts 2 needs 1 pump hose 4;"
                + "drill y at a lasts 1 needs 1 pump hose 3;");
        description("All hose lengths are dry at first.");
        edges.same("slot 0", x.dryHoses(0), 7);
        edges.same("slot 47", x.dryHoses(47), 7);
        edges.same("none wet or drying", x.wetHoses(0) + x.dryingHoses(0), 0);
        x.setStart(0, 1);
        description("A drill uses its lengths from its start until its end.");
        edges.same("before", hosesAt(x, 0), "7 0 0");
        edges.same("at the start", hosesAt(x, 1), "3 0 0");
        edges.same("in the last slot", hosesAt(x, 2), "3 0 0");
        description("In its end slot they become wet.");
        edges.same("in the end slot", hosesAt(x, 3), "3 2 2");
        DrillPlanner far = edges.planner("node a;node b;road a b 60;station s at a;engine p pump at s;hoses 3 dry 1 racks 2;"
                + "drill x at b lasts 2 needs 1 pump hose 3;");
        far.setStart(0, 1);
        edges.same("used on the way there", hosesAt(far, 4), "0 0 0");
        edges.same("wet before the engine is back", hosesAt(far, 5), "0 1 2");
        edges.same("one more dries on the way back", hosesAt(far, 6), "2 0 1");
        description("lengths whose drying time is over become dry and leave their rack places; the lengths of drills that end in this slot "
                + "become wet; wet lengths take free rack places, as many as there are; then drills start.");
        edges.same("while two dry", hosesAt(x, 4), "3 2 2");
        edges.same("the next two", hosesAt(x, 5), "5 0 2");
        edges.same("while they dry", hosesAt(x, 6), "5 0 2");
        edges.same("all dry", hosesAt(x, 7), "7 0 0");
        // Drill 1 ends in slot 5, in which two lengths leave their places: the older two take them, the three new ones wait.
        x.setStart(1, 4);
        edges.same("before the end of drill 1", hosesAt(x, 4), "0 2 2");
        edges.same("in slot 5", hosesAt(x, 5), "2 3 2");
        edges.same("in slot 7", hosesAt(x, 7), "4 1 2");
        edges.same("in slot 9: one place stays free", hosesAt(x, 9), "6 0 1");
        edges.same("in slot 11", hosesAt(x, 11), "7 0 0");
        DrillPlanner start = edges.planner(PUMPS + "hoses 4 dry 1 racks 4;drill x at a lasts 1 needs 1 pump hose 4;"
                + "drill y at a lasts 1 needs 1 pump hose 4;");
        start.setStart(0, 0);
        start.setStart(1, 2);
        edges.same("dry before drills start", start.drillState(1), 1);
        edges.same("counted after they start", hosesAt(start, 2), "0 0 0");
        description("A length that takes a rack place in slot t becomes dry in slot t + the drying time.");
        DrillPlanner slow = edges.planner(PUMPS + "hoses 2 dry 12 racks 1;drill x at a lasts 1 needs 1 pump hose 2;");
        slow.setStart(0, 23);
        edges.same("slot 24", hosesAt(slow, 24), "0 1 1");
        edges.same("slot 35", hosesAt(slow, 35), "0 1 1");
        edges.same("slot 36", hosesAt(slow, 36), "1 0 1");
        edges.same("slot 47", hosesAt(slow, 47), "1 0 1");
        slow.setStart(0, 22);
        edges.same("dry in slot 47", hosesAt(slow, 47), "2 0 0");
        description("Dry, wet (waiting for a place), drying and used lengths of a slot are counted after all this.");
        DrillPlanner all = edges.planner(PUMPS + "hoses 40 dry 12 racks 12;drill x at a lasts 1 needs 1 pump hose 25;"
                + "drill y at a lasts 2 needs 1 pump hose 5;");
        all.setStart(0, 0);
        all.setStart(1, 1);
        edges.same("10 dry, 13 wait, 12 dry, 5 used", hosesAt(all, 1), "10 13 12");
        edges.same("none used", hosesAt(all, 3), "10 18 12");
    }

    private static String hosesAt(DrillPlanner x, int slot) {
        return x.dryHoses(slot) + " " + x.wetHoses(slot) + " " + x.dryingHoses(slot);
    }

    private void refusedCalls() {
        description("A method that throws changes nothing.");
        refused("travelMinutes", x -> x.travelMinutes(12, 0));
        refused("travelSlots", x -> x.travelSlots(0, 5));
        refused("homeStation", x -> x.homeStation(-1));
        refused("engineKind", x -> x.engineKind(10));
        refused("coverStation", x -> x.coverStation(1024, 0));
        refused("uncovered", x -> x.uncovered(1024));
        refused("uncoveredWithoutMoves", x -> x.uncoveredWithoutMoves(-1));
        refused("nearestMinutes", x -> x.nearestMinutes(1023, 12));
        refused("coveringEngines", x -> x.coveringEngines(2047, 0));
        refused("weakestStreet", x -> x.weakestStreet(Integer.MIN_VALUE));
        refused("setStart of no drill", x -> x.setStart(5, 0));
        refused("setStart before all drills", x -> x.setStart(-1, 0));
        refused("setStart too late", x -> x.setStart(0, 24));
        refused("setStart too early", x -> x.setStart(0, -2));
        refused("start", x -> x.start(5));
        refused("drillState", x -> x.drillState(5));
        refused("drillEngines", x -> x.drillEngines(5));
        refused("drillBegin", x -> x.drillBegin(5));
        refused("drillEnd", x -> x.drillEnd(5));
        refused("drillBack", x -> x.drillBack(5));
        refused("violationCode", x -> x.violationCode(x.violations()));
        refused("violationSlot", x -> x.violationSlot(-1));
        refused("violationSubject", x -> x.violationSubject(99));
        refused("availableAt", x -> x.availableAt(48));
        refused("uncoveredAt", x -> x.uncoveredAt(48));
        refused("dryHoses", x -> x.dryHoses(48));
        refused("wetHoses", x -> x.wetHoses(-1));
        refused("dryingHoses", x -> x.dryingHoses(48));
        refused("awaySlots", x -> x.awaySlots(10));
        refused("earliestStart", x -> x.earliestStart(5));
        refused("schedule with a drill too many", x -> x.schedule(61));
        refused("schedule with a drill twice", x -> x.schedule(2121));
        refused("schedule of a negative order", x -> x.schedule(-1));
        refused("schedule with a 0", x -> x.schedule(10));
        refused("bestFinishWithout", x -> x.bestFinishWithout(10));
        refused("bestFinishWith lengths", x -> x.bestFinishWith(41, 1));
        refused("bestFinishWith racks", x -> x.bestFinishWith(0, 0));
    }

    private void refused(String what, Edges.PlannerCall call) {
        DrillPlanner x = Full.busy();
        edges.same(what + " throws", Bench.outcome(() -> call.run(x)).startsWith("throws."), true);
        edges.changesNothing(what, Full::busy, call);
    }

    private void slotParameters() {
        DrillPlanner x = Full.busy();
        description("A slot parameter out of the range 0 to 47 is an index out of range.");
        edges.onlyIndexes("availableAt", 48, x::availableAt);
        edges.onlyIndexes("uncoveredAt", 48, x::uncoveredAt);
        edges.onlyIndexes("dryHoses", 48, x::dryHoses);
        edges.onlyIndexes("wetHoses", 48, x::wetHoses);
        edges.onlyIndexes("dryingHoses", 48, x::dryingHoses);
        description("Time is divided into slots, numbered from 0 to 47.");
        DrillPlanner none = new DrillPlanner();
        edges.onlyIndexes("availableAt without a brigade", 48, none::availableAt);
        edges.onlyIndexes("dryHoses without a brigade", 48, none::dryHoses);
    }

    private void promise25() {
        edges.sentence("25", "This is an edit, even if the start does not change.");
        DrillPlanner x = edges.planner(THREE);
        x.setStart(0, 5);
        x.setStart(0, 5);
        x.setStart(1, -1);
        edges.same("undo of a removal of no start", x.undo(), 2);
        edges.same("undo of the same start", x.undo(), 1);
        edges.same("start", x.start(0), 5);
        edges.same("undo", x.undo(), 0);
        edges.same("no start", x.start(0), -1);
        edges.sentence("25", "slot: 0 to 23, or -1 to remove the start");
        for (int slot = 0; slot < 24; slot++) {
            x.setStart(0, slot);
            edges.same("start " + slot, x.start(0), slot);
        }
        x.setStart(0, -1);
        edges.same("removed", x.start(0), -1);
        edges.same("takes no engine", x.availableAt(23), 3);
        edges.sentence("25", "Returns the previous start, -1 if there was none.");
        edges.same("none", x.setStart(0, 0), -1);
        edges.same("0", x.setStart(0, 23), 0);
        edges.same("23", x.setStart(0, -1), 23);
        edges.same("none again", x.setStart(0, -1), -1);
        edges.sentence("25", "Throws IndexOutOfBoundsException if drill is out of range");
        edges.onlyIndexes("setStart", 3, drill -> x.setStart(drill, 0));
        edges.onlyIndexes("setStart of five", 5, drill -> Full.busy().setStart(drill, 23));
        edges.onlyIndexes("setStart of none", 0, drill -> new DrillPlanner().setStart(drill, 0));
        edges.sentence("25", "Throws IllegalArgumentException if slot is out of range");
        for (int slot : new int[] {-2, 24, 47, 48, Integer.MIN_VALUE, Integer.MAX_VALUE}) {
            edges.throwsArgument("setStart at " + slot, () -> x.setStart(2, slot));
        }
    }

    private void promises26And27() {
        DrillPlanner x = edges.planner(THREE);
        edges.sentence("26", "Returns the start; -1 if there is none.");
        edges.same("none", x.start(2), -1);
        x.setStart(2, 0);
        edges.same("of a cancelled drill", x.start(2), 0);
        edges.sentence("26", "Throws IndexOutOfBoundsException if drill is out of range");
        edges.onlyIndexes("start", 3, x::start);
        edges.onlyIndexes("start of five", 5, Full.busy()::start);
        edges.onlyIndexes("start of none", 0, new DrillPlanner()::start);
        edges.sentence("27", "Returns the number of drills that had a start.");
        edges.same("one, at 0", x.clearStarts(), 1);
        edges.same("none", x.clearStarts(), 0);
        x.setStart(0, 23);
        x.setStart(1, 0);
        x.setStart(2, 1);
        edges.same("all", x.clearStarts(), 3);
        DrillPlanner full = Full.busy();
        edges.same("four of five", full.clearStarts(), 4);
        edges.same("none of five", Edges.starts(full), " - - - - -");
        edges.same("no drills", new DrillPlanner().clearStarts(), 0);
        edges.sentence("27", "Removes the starts of all drills.");
        full.schedule(54321);
        edges.same("five of five", full.clearStarts(), 5);
        edges.same("nothing takes place", full.finish() + full.violations(), 0);
        edges.same("all are back", full.availableAt(0), 1023);
        edges.same("all is dry", full.dryHoses(0), 9);
        edges.sentence("27", "This is an edit.");
        DrillPlanner y = edges.planner(THREE);
        y.clearStarts();
        edges.same("without a start", y.undo(), 0);
        y.setStart(1, 7);
        y.clearStarts();
        edges.same("with a start", y.undo(), 1);
        edges.same("the start is back", y.start(1), 7);
        edges.same("its drill takes place", y.drillEnd(1), 10);
    }

    private void promise28() {
        edges.sentence("28", "Returns the number of edits that can still be undone; -1 if there was none to undo.");
        DrillPlanner x = edges.planner(THREE);
        edges.same("no edit", x.undo(), -1);
        x.setStart(0, 1);
        edges.same("the only one", x.undo(), 0);
        edges.same("no more", x.undo(), -1);
        edges.same("and again", x.undo(), -1);
        edges.same("no start", x.start(0), -1);
        edges.sentence("28", "The latest 8 edits can be undone.");
        for (int edits = 1; edits <= 12; edits++) {
            DrillPlanner y = edges.planner(THREE);
            for (int slot = 0; slot < edits; slot++) {
                y.setStart(0, slot);
            }
            int kept = Math.min(edits, 8);
            for (int left = kept - 1; left >= 0; left--) {
                edges.same("undo after " + edits, y.undo(), left);
                edges.same("start", y.start(0), edits - 1 - kept + left);
            }
            edges.same("no ninth after " + edits, y.undo(), -1);
            edges.same("start stays", y.start(0), edits - 1 - kept);
        }
        DrillPlanner full = Full.busy();
        for (int i = 0; i < 9; i++) {
            full.setStart(4, i);
        }
        for (int left = 7; left >= 0; left--) {
            edges.same("undo of the last drill", full.undo() * 100 + full.start(4), left * 101);
        }
        edges.sentence("28", "Undoes the latest edit that is not undone yet.");
        DrillPlanner z = edges.planner(THREE);
        z.setStart(0, 1);
        z.setStart(1, 2);
        z.undo();
        z.setStart(1, 3);
        edges.same("the newer one", z.undo(), 1);
        edges.same("back to before it", Edges.starts(z), " 1 - -");
        edges.same("the older one", z.undo(), 0);
        edges.same("back to nothing", Edges.starts(z), " - - -");
        z.schedule(21);
        z.clearStarts();
        z.setStart(0, 9);
        z.compact();
        edges.same("a compact", z.undo() + Edges.starts(z), "3 9 - -");
        edges.same("a start", z.undo() + Edges.starts(z), "2 - - -");
        edges.same("a clearing", z.undo() + Edges.starts(z), "1 0 0 -");
        edges.same("a schedule", z.undo() + Edges.starts(z), "0 - - -");
        edges.same("an undo is no edit", z.undo(), -1);
    }

    private void promise29() {
        DrillPlanner x = edges.planner(PUMPS + "hoses 3 dry 1 racks 1;drill x at a lasts 1 needs 1 pump hose 4 from 2;"
                + "drill y at a lasts 1 needs 1 pump after x;drill z at a lasts 1 needs 3 pump;");
        edges.sentence("29", "Returns 0 if it has no start, 1 if it takes place; if it is cancelled, minus its violation code.");
        edges.same("no start", x.drillState(0) + x.drillState(1) + x.drillState(2), 0);
        state(x, 0, 1, -1);
        state(x, 1, 1, -2);
        state(x, 2, 0, -3);
        state(x, 0, 2, -4);
        state(x, 0, -1, 0);
        DrillPlanner good = edges.planner(THREE);
        state(good, 0, 0, 1);
        state(good, 0, 23, 1);
        edges.sentence("29", "Throws IndexOutOfBoundsException if drill is out of range");
        edges.onlyIndexes("drillState", 3, x::drillState);
        edges.onlyIndexes("drillState of five", 5, Full.busy()::drillState);
        edges.onlyIndexes("drillState of none", 0, new DrillPlanner()::drillState);
    }

    private void promises30To33() {
        DrillPlanner none = edges.planner(THREE);
        DrillPlanner cancelled = edges.planner(THREE);
        cancelled.setStart(2, 0);
        DrillPlanner zero = edges.planner(THREE);
        zero.setStart(0, 0);
        DrillPlanner full = edges.planner(Full.TEXT);
        full.schedule(54321);
        String drill = "Throws IndexOutOfBoundsException if drill is out of range";
        edges.sentence("30", "Returns the set of engines; 0 if the drill does not take place.");
        edges.same("no start", none.drillEngines(2), 0);
        edges.same("cancelled", cancelled.drillEngines(2), 0);
        DrillPlanner wet = edges.planner(PUMPS + "drill x at a lasts 1 needs 1 pump hose 1;drill y at a lasts 1 needs 1 pump from 5;");
        wet.setStart(0, 3);
        wet.setStart(1, 4);
        edges.same("cancelled for another reason", wet.drillEngines(0) + wet.drillEngines(1), 0);
        edges.same("takes place", zero.drillEngines(0), 1);
        edges.same("the last of ten engines", full.drillEngines(4), 512);
        edges.sentence("30", drill);
        edges.onlyIndexes("drillEngines", 3, zero::drillEngines);
        edges.onlyIndexes("drillEngines of five", 5, full::drillEngines);
        edges.sentence("31", "Returns the slot; -1 if the drill does not take place.");
        edges.same("no start", none.drillBegin(2), -1);
        edges.same("cancelled", cancelled.drillBegin(2), -1);
        edges.same("takes place", zero.drillBegin(0), 0);
        edges.same("of the last drill", full.drillBegin(4), 15);
        edges.sentence("31", drill);
        edges.onlyIndexes("drillBegin", 3, zero::drillBegin);
        edges.onlyIndexes("drillBegin of five", 5, full::drillBegin);
        edges.sentence("32", "Returns the slot; -1 if the drill does not take place.");
        edges.same("no start", none.drillEnd(2), -1);
        edges.same("cancelled", cancelled.drillEnd(2), -1);
        edges.same("takes place", zero.drillEnd(0), 2);
        edges.same("of the last drill", full.drillEnd(4), 16);
        edges.sentence("32", drill);
        edges.onlyIndexes("drillEnd", 3, zero::drillEnd);
        edges.onlyIndexes("drillEnd of five", 5, full::drillEnd);
        edges.sentence("33", "Returns the slot; -1 if the drill does not take place.");
        edges.same("no start", none.drillBack(2), -1);
        edges.same("cancelled", cancelled.drillBack(2), -1);
        edges.same("takes place", zero.drillBack(0), 2);
        edges.same("of the last drill", full.drillBack(4), 22);
        edges.sentence("33", drill);
        edges.onlyIndexes("drillBack", 3, zero::drillBack);
        edges.onlyIndexes("drillBack of five", 5, full::drillBack);
        edges.sentence("33", "Returns the slot in which the last engine of a drill is back.");
        DrillPlanner far = edges.planner("node a;node b;road a b 30;station s at a;station t at b;engine p pump at t;engine q pump at s;"
                + "drill x at b lasts 1 needs 2 pump;");
        far.setStart(0, 0);
        edges.same("not the first engine", far.drillBack(0), 3);
    }

    private void promises34To37() {
        String index = "Throws IndexOutOfBoundsException if index is out of range";
        DrillPlanner valid = edges.planner(THREE);
        DrillPlanner three = edges.planner(THREE);
        three.setStart(2, 23);
        three.setStart(0, 23);
        three.setStart(1, 23);
        DrillPlanner cover = edges.planner(ALONE);
        cover.setStart(0, 23);
        DrillPlanner five = edges.planner(fiveDrills().replace("drill f at a lasts 2 needs 1 pump", "drill f at a lasts 2 needs 1 pump from 17")
                .replace("drill j at a lasts 2 needs 1", "drill j at a lasts 2 needs 4"));
        five.setStart(0, 16);
        for (int drill = 1; drill < 5; drill++) {
            five.setStart(drill, 23);
        }
        edges.sentence("34", "Returns the number; 0 if the timetable is valid.");
        edges.same("no starts", valid.violations(), 0);
        valid.setStart(0, 0);
        edges.same("a drill that takes place", valid.violations(), 0);
        edges.same("a cancelled drill", three.violations(), 1);
        edges.same("uncovered slots", cover.violations(), 4);
        edges.same("nothing", new DrillPlanner().violations(), 0);
        edges.sentence("35", "index: index of the violation, from 0, in their order");
        edges.same("0 and 1", five.violationCode(0) * 10 + five.violationCode(1), 13);
        edges.sentence("36", "index: index of the violation, from 0, in their order");
        edges.same("0 and 1", five.violationSlot(0) * 100 + five.violationSlot(1), 1623);
        edges.sentence("37", "index: index of the violation, from 0, in their order");
        edges.same("0 and 1", five.violationSubject(0) * 10 + five.violationSubject(1), 4);
        edges.sentence("35", "Returns the violation code.");
        edges.same("ENGINES", three.violationCode(0), 3);
        edges.same("COVER", cover.violationCode(3), 5);
        edges.sentence("35", index);
        edges.onlyIndexes("violationCode of one", 1, three::violationCode);
        edges.onlyIndexes("violationCode of four", 4, cover::violationCode);
        edges.onlyIndexes("violationCode of none", 0, valid::violationCode);
        edges.sentence("36", "Returns the slot.");
        edges.same("of the drill", three.violationSlot(0), 23);
        edges.same("of the last COVER", cover.violationSlot(3), 26);
        edges.sentence("36", index);
        edges.onlyIndexes("violationSlot of one", 1, three::violationSlot);
        edges.onlyIndexes("violationSlot of four", 4, cover::violationSlot);
        edges.onlyIndexes("violationSlot of none", 0, valid::violationSlot);
        edges.sentence("37", "Returns number of the drill; for COVER, number of the uncovered street with the smallest number.");
        edges.same("the drill", three.violationSubject(0), 2);
        edges.same("the first of two streets", cover.violationSubject(0), 0);
        edges.same("the first of twelve streets", edges.planner(oneOpen(0)).violationSubject(47), 0);
        edges.same("the last of twelve streets", edges.planner(oneOpen(11)).violationSubject(0), 11);
        edges.sentence("37", index);
        edges.onlyIndexes("violationSubject of one", 1, three::violationSubject);
        edges.onlyIndexes("violationSubject of four", 4, cover::violationSubject);
        edges.onlyIndexes("violationSubject of none", 0, valid::violationSubject);
    }

    /** Twelve streets, one of which nobody can reach. */
    private static String oneOpen(int open) {
        StringBuilder text = new StringBuilder("node a;node b;station s at a;engine p pump at s;");
        for (int street = 0; street < 12; street++) {
            text.append(street == open ? "street b within 1;" : "street a within 1;");
        }
        return text.toString();
    }

    private void promises38And39() {
        DrillPlanner x = edges.planner(ALONE);
        edges.sentence("38", "Returns the set of engines.");
        edges.same("all", x.availableAt(0), 1);
        x.setStart(0, 0);
        edges.same("none", x.availableAt(0), 0);
        edges.same("none in the last slot away", x.availableAt(3), 0);
        edges.same("all when it is back", x.availableAt(4), 1);
        edges.same("ten", Full.busy().availableAt(47), 1023);
        edges.sentence("38", "Throws IndexOutOfBoundsException if slot is out of range");
        edges.onlyIndexes("availableAt", 48, x::availableAt);
        edges.sentence("39", "Returns the streets that are not covered in a slot.");
        DrillPlanner ladder = edges.planner(PUMPS + "engine l ladder at s;street a within 0;street a within 0 ladder;"
                + "drill x at a lasts 1 needs 1 ladder;");
        ladder.setStart(0, 23);
        edges.same("before, then, after", ladder.uncoveredAt(22) + "," + ladder.uncoveredAt(23) + "," + ladder.uncoveredAt(24), "0,2,0");
        edges.same("a greater street than 0", Edges.violations(ladder), "23.5.1");
        edges.sentence("39", "Returns the set of streets.");
        edges.same("all while it is away", x.uncoveredAt(0), 3);
        edges.same("none", x.uncoveredAt(4), 0);
        edges.same("after moves", edges.planner(Full.TEXT).uncoveredAt(47), 0);
        edges.sentence("39", "Throws IndexOutOfBoundsException if slot is out of range");
        edges.onlyIndexes("uncoveredAt", 48, x::uncoveredAt);
    }

    private void promises40To42() {
        DrillPlanner x = edges.planner(PUMPS + "hoses 40 dry 12 racks 12;drill x at a lasts 1 needs 1 pump hose 40;");
        x.setStart(0, 1);
        edges.sentence("40", "Returns the number of lengths.");
        edges.same("all", x.dryHoses(0), 40);
        edges.same("none", x.dryHoses(1), 0);
        edges.same("some", x.dryHoses(14), 12);
        edges.same("the last four, too, at last", x.dryHoses(47), 36);
        edges.sentence("40", "Throws IndexOutOfBoundsException if slot is out of range");
        edges.onlyIndexes("dryHoses", 48, x::dryHoses);
        edges.sentence("41", "Returns the number of lengths.");
        edges.same("none", x.wetHoses(1), 0);
        edges.same("those without a place", x.wetHoses(2), 28);
        edges.same("none at last", x.wetHoses(47), 0);
        edges.sentence("41", "Throws IndexOutOfBoundsException if slot is out of range");
        edges.onlyIndexes("wetHoses", 48, x::wetHoses);
        edges.sentence("42", "Returns the number of lengths.");
        edges.same("none", x.dryingHoses(1), 0);
        edges.same("on all places", x.dryingHoses(2), 12);
        edges.same("the last four", x.dryingHoses(47), 4);
        edges.sentence("42", "Throws IndexOutOfBoundsException if slot is out of range");
        edges.onlyIndexes("dryingHoses", 48, x::dryingHoses);
    }

    private void promises43To45() {
        DrillPlanner x = edges.planner(THREE);
        edges.sentence("43", "Returns the number of slots.");
        edges.same("none", x.awaySlots(0), 0);
        x.setStart(0, 0);
        x.setStart(1, 2);
        edges.same("two drills one behind the other", x.awaySlots(0), 5);
        edges.same("the other engine", x.awaySlots(1), 0);
        DrillPlanner full = edges.planner(Full.TEXT);
        full.schedule(54321);
        edges.same("the last of ten", full.awaySlots(9), 13);
        DrillPlanner away = edges.planner("slot 10;node a;node b;road a b 60;station s at a;engine p pump at s;"
                + "drill x at b lasts 8 needs 1 pump;drill y at b lasts 8 needs 1 pump;");
        away.setStart(0, 0);
        away.setStart(1, 20);
        edges.same("most slots", away.awaySlots(0), 40);
        edges.sentence("43", "Throws IndexOutOfBoundsException if engine is out of range");
        edges.onlyIndexes("awaySlots", 2, x::awaySlots);
        edges.onlyIndexes("awaySlots of ten", 10, full::awaySlots);
        edges.onlyIndexes("awaySlots of none", 0, new DrillPlanner()::awaySlots);
        edges.sentence("44", "Finds the busiest slot: the one in which most engines are away.");
        DrillPlanner busy = edges.planner(THREE);
        busy.setStart(0, 3);
        edges.same("the only one", busy.busiestSlot(), 3);
        busy.setStart(1, 4);
        edges.same("one of two in which both are away", busy.busiestSlot(), 4);
        busy.setStart(2, 0);
        edges.same("a cancelled drill takes nobody away", busy.busiestSlot(), 4);
        edges.sentence("44", "Returns the slot, the smallest one on a tie.");
        DrillPlanner y = edges.planner(THREE);
        edges.same("nobody is ever away", y.busiestSlot(), 0);
        edges.same("no engines", new DrillPlanner().busiestSlot(), 0);
        y.setStart(0, 23);
        edges.same("tie of two slots", y.busiestSlot(), 23);
        y.setStart(1, 22);
        edges.same("two are away", y.busiestSlot(), 23);
        y.setStart(1, 2);
        edges.same("tie of two drills", y.busiestSlot(), 2);
        edges.same("a later slot of more engines", full.busiestSlot(), 6);
        DrillPlanner four = edges.planner(tenPumps() + "drill v at a lasts 1 needs 4 pump;drill w at a lasts 1 needs 4 pump;"
                + "drill x at a lasts 1 needs 2 pump;");
        four.setStart(0, 5);
        four.setStart(1, 5);
        four.setStart(2, 5);
        edges.same("all ten are away", four.busiestSlot(), 5);
        edges.sentence("45", "Returns the greatest end of the drills that take place; 0 if none does.");
        DrillPlanner z = edges.planner(THREE);
        edges.same("no starts", z.finish(), 0);
        z.setStart(2, 20);
        edges.same("a cancelled drill", z.finish(), 0);
        z.setStart(0, 23);
        edges.same("the only one", z.finish(), 25);
        z.setStart(1, 22);
        edges.same("of equal ends", z.finish(), 25);
        z.setStart(1, 0);
        edges.same("the later one, not the last number", z.finish(), 25);
        edges.same("of five drills", full.finish(), 16);
        edges.same("no drills", new DrillPlanner().finish(), 0);
    }
}
