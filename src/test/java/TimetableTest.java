/** Promises 25 to 45: starts, edits, and what follows from a timetable. */
public final class TimetableTest {
    /** Travel slots to b: 1 for p and q, 0 for r and l. */
    private static final String FIELD = "node a;node b;road a b 30;station s at a;station t at b;engine p pump at s;engine q pump at s;"
            + "engine r pump at t;engine l ladder at t;street a within 0;hoses 6 dry 2 racks 2;"
            + "drill x at b lasts 2 needs 2 pump hose 4;"
            + "drill y at a lasts 1 needs 1 pump,1 ladder hose 3 from 2;"
            + "drill z at a lasts 1 needs 1 pump after x;"
            + "drill w at b lasts 1 needs 4 pump;"
            + "drill v at a lasts 1 needs 4 ladder hose 40 after x from 5;";
    /** The only pump drives to b and leaves street 0 (b) and street 1 (a) alone. */
    private static final String ALONE = "node a;node b;road a b 30;station s at a;engine p pump at s;street b within 30;"
            + "street a within 0 pump;drill x at a lasts 2 needs 1 pump;drill y at a lasts 1 needs 2 pump;";
    private static final Bench BENCH = new Bench();

    public static void main(String[] args) {
        promises25To27Starts();
        promise28Undo();
        promise29OrderOfConditions();
        promise29Engines();
        promise29Hoses();
        promise29After();
        promises30To33Drills();
        promises34To37Violations();
        promises38And39Slots();
        promises40To42Hoses();
        promises43To45();
        BENCH.close("TimetableTest");
    }

    private static void promises25To27Starts() {
        DrillPlanner x = Bench.planner(FIELD);
        BENCH.same("no start", x.start(0), -1);
        BENCH.same("setStart", x.setStart(0, 23), -1);
        BENCH.same("setStart again", x.setStart(0, 0), 23);
        BENCH.same("same start", x.setStart(0, 0), 0);
        BENCH.same("start", x.start(0), 0);
        BENCH.same("other drill", x.setStart(4, 7), -1);
        BENCH.same("remove", x.setStart(0, -1), 0);
        BENCH.same("removed", x.start(0), -1);
        BENCH.same("remove again", x.setStart(0, -1), -1);
        BENCH.same("undo the last", x.undo(), 5);
        for (int wrong : new int[] {-1, 5, Integer.MIN_VALUE, Integer.MAX_VALUE}) {
            BENCH.throwsIndex("setStart drill " + wrong, () -> x.setStart(wrong, 0));
            BENCH.throwsIndex("setStart drill and slot", () -> x.setStart(wrong, 24));
            BENCH.throwsIndex("start " + wrong, () -> x.start(wrong));
        }
        for (int wrong : new int[] {-2, 24, Integer.MIN_VALUE, Integer.MAX_VALUE}) {
            BENCH.throwsArgument("setStart slot " + wrong, () -> x.setStart(0, wrong));
        }
        BENCH.same("unchanged", x.start(0), -1);
        BENCH.same("a throw is no edit", x.undo(), 4);
        x.setStart(1, 5);
        BENCH.same("clearStarts", x.clearStarts(), 3);
        BENCH.same("cleared", x.start(0) + x.start(1) + x.start(4), -3);
        BENCH.same("clearStarts again", x.clearStarts(), 0);
        BENCH.same("undo", x.undo(), 6);
        BENCH.same("undo", x.undo(), 5);
        BENCH.same("back", x.start(0) * 10000 + x.start(1) * 100 + x.start(4), 507);
    }

    private static void promise28Undo() {
        DrillPlanner x = Bench.planner(FIELD);
        BENCH.same("nothing to undo", x.undo(), -1);
        for (int slot = 0; slot < 10; slot++) {
            x.setStart(0, slot);
        }
        for (int left = 7; left >= 0; left--) {
            BENCH.same("undo", x.undo(), left);
            BENCH.same("start after undo", x.start(0), left + 1);
        }
        BENCH.same("no ninth", x.undo(), -1);
        BENCH.same("start stays", x.start(0), 1);
        x.setStart(0, 5);
        BENCH.same("a new edit", x.undo(), 0);
        BENCH.same("start", x.start(0), 1);
        // All edits count: a schedule, a compact, a clearing and a start that does not change.
        x.clearStarts();
        x.schedule(1);
        x.compact();
        x.setStart(0, 0);
        x.schedule(4);
        BENCH.same("undo the setStart", x.undo(), 3);
        BENCH.same("undo the compact", x.undo(), 2);
        BENCH.same("undo the schedule", x.undo(), 1);
        BENCH.same("start", x.start(0), -1);
        BENCH.same("undo the clearing", x.undo(), 0);
        BENCH.same("start", x.start(0), 1);
        BENCH.same("drillEnd follows", x.drillEnd(0), 4);
    }

    private static void promise29OrderOfConditions() {
        DrillPlanner x = Bench.planner(FIELD);
        for (int drill = 0; drill < 5; drill++) {
            BENCH.same("without a start", x.drillState(drill), 0);
        }
        x.setStart(4, 4);
        BENCH.same("EARLY first", x.drillState(4), -DrillPlanner.EARLY);
        x.setStart(4, 5);
        BENCH.same("then ORDER", x.drillState(4), -DrillPlanner.ORDER);
        x.setStart(0, 0);
        BENCH.same("then ENGINES", x.drillState(4), -DrillPlanner.ENGINES);
        x.setStart(1, 2);
        BENCH.same("then HOSES", x.drillState(1), -DrillPlanner.HOSES);
        x.setStart(1, 5);
        BENCH.same("takes place", x.drillState(1), 1);
        for (int wrong : new int[] {-1, 5, Integer.MIN_VALUE}) {
            BENCH.throwsIndex("drillState", () -> x.drillState(wrong));
        }
    }

    private static void promise29Engines() {
        DrillPlanner far = Bench.planner("slot 10;node a;node b;node c;node d;road a b 60;road b c 1;station s at a;engine p pump at s;"
                + "drill x at b lasts 8 needs 1 pump;drill y at c lasts 1 needs 1 pump;drill z at d lasts 1 needs 1 pump;"
                + "drill w at a lasts 1 needs 1 ladder;drill v at a lasts 1 needs 1 pump;");
        far.setStart(0, 23);
        BENCH.same("six travel slots", far.drillState(0), 1);
        BENCH.same("begin", far.drillBegin(0), 29);
        BENCH.same("end", far.drillEnd(0), 37);
        BENCH.same("back", far.drillBack(0), 43);
        BENCH.same("still away", far.availableAt(42), 0);
        BENCH.same("back again", far.availableAt(43), 1);
        far.setStart(0, -1);
        far.setStart(1, 0);
        BENCH.same("seven travel slots", far.drillState(1), -DrillPlanner.ENGINES);
        far.setStart(2, 0);
        BENCH.same("no way", far.drillState(2), -DrillPlanner.ENGINES);
        far.setStart(3, 0);
        BENCH.same("no ladder", far.drillState(3), -DrillPlanner.ENGINES);
        far.setStart(0, 0);
        far.setStart(4, 19);
        BENCH.same("away in the start slot", far.drillState(4), -DrillPlanner.ENGINES);
        far.setStart(4, 20);
        BENCH.same("back in the start slot", far.drillState(4), 1);
        // Both have two travel slots; r has the smaller travel time, and of p and q the smaller number counts.
        String three = "node a;node b;node c;road a b 32;road c b 31;station s at a;station t at c;engine p pump at s;"
                + "engine q pump at s;engine r pump at t;drill x at b lasts 1 needs # pump;";
        DrillPlanner one = Bench.planner(three.replace('#', '1'));
        one.setStart(0, 0);
        BENCH.same("smallest travel time", one.drillEngines(0), 4);
        DrillPlanner two = Bench.planner(three.replace('#', '2'));
        two.setStart(0, 0);
        BENCH.same("then the smallest number", two.drillEngines(0), 5);
        DrillPlanner row = Bench.planner("node a;node b;node c;node d;road a b 1;road b c 1;road c d 1;station s at a;station t at b;"
                + "station u at c;station v at d;engine e pump at v;engine f pump at u;engine g pump at v;engine h pump at t;"
                + "engine i pump at u;engine j pump at s;drill x at a lasts 1 needs 1 pump;drill y at a lasts 1 needs 2 pump;"
                + "drill z at a lasts 1 needs 1 pump;drill w at a lasts 1 needs 1 pump;drill k at a lasts 1 needs 1 pump;");
        for (int drill = 0; drill < 5; drill++) {
            row.setStart(drill, 0);
        }
        int[] taken = {32, 10, 16, 1, 4};
        for (int drill = 0; drill < 5; drill++) {
            BENCH.same("nearest of those that are left", row.drillEngines(drill), taken[drill]);
        }
    }

    private static void promise29Hoses() {
        DrillPlanner x = Bench.planner("node a;station s at a;engine p pump at s;engine q pump at s;hoses 4 dry 1 racks 12;"
                + "drill x at a lasts 1 needs 1 pump hose 3;drill y at a lasts 1 needs 1 pump hose 1;"
                + "drill z at a lasts 1 needs 1 pump hose 2;");
        x.setStart(0, 0);
        x.setStart(1, 0);
        BENCH.same("exactly enough", x.drillState(1), 1);
        x.setStart(1, -1);
        x.setStart(2, 0);
        BENCH.same("after what earlier drills took", x.drillState(2), -DrillPlanner.HOSES);
        x.setStart(2, 1);
        BENCH.same("wet at the end", x.drillState(2), -DrillPlanner.HOSES);
        x.setStart(2, 2);
        BENCH.same("dry before the drills start", x.drillState(2), 1);
        x.setStart(0, 3);
        x.setStart(2, 3);
        BENCH.same("the smaller number comes first", x.drillState(0) * 10 - x.drillState(2), 14);
    }

    private static void promise29After() {
        DrillPlanner x = Bench.planner("node a;station s at a;engine p pump at s;engine q pump at s;"
                + "drill x at a lasts 2 needs 1 pump from 1;drill y at a lasts 1 needs 1 pump after x;"
                + "drill z at a lasts 1 needs 1 pump after x,y;");
        x.setStart(1, 5);
        BENCH.same("no start", x.drillState(1), -DrillPlanner.ORDER);
        x.setStart(0, 0);
        BENCH.same("cancelled", x.drillState(1), -DrillPlanner.ORDER);
        x.setStart(0, 6);
        BENCH.same("not processed yet", x.drillState(1), -DrillPlanner.ORDER);
        x.setStart(0, 4);
        BENCH.same("not ended", x.drillState(1), -DrillPlanner.ORDER);
        x.setStart(0, 3);
        BENCH.same("ends at the start", x.drillState(1), 1);
        x.setStart(2, 5);
        BENCH.same("one of two has not ended", x.drillState(2), -DrillPlanner.ORDER);
        x.setStart(2, 6);
        BENCH.same("both have ended", x.drillState(2), 1);
    }

    private static void promises30To33Drills() {
        DrillPlanner x = Bench.planner(FIELD);
        BENCH.same("no start", "" + x.drillEngines(0) + x.drillBegin(0) + x.drillEnd(0) + x.drillBack(0), "0-1-1-1");
        x.setStart(0, 0);
        BENCH.same("engines", x.drillEngines(0), 5);
        BENCH.same("begin", x.drillBegin(0), 1);
        BENCH.same("end", x.drillEnd(0), 3);
        BENCH.same("back", x.drillBack(0), 4);
        x.setStart(1, 5);
        BENCH.same("engines of two kinds", x.drillEngines(1), 9);
        BENCH.same("begin with the slowest", x.drillBegin(1), 6);
        BENCH.same("end", x.drillEnd(1), 7);
        BENCH.same("back", x.drillBack(1), 8);
        x.setStart(2, 3);
        BENCH.same("not the one on its way home", x.drillEngines(2), 2);
        BENCH.same("times", x.drillBegin(2) * 100 + x.drillEnd(2) * 10 + x.drillBack(2), 344);
        x.setStart(1, 1);
        BENCH.same("cancelled", "" + x.drillEngines(1) + x.drillBegin(1) + x.drillEnd(1) + x.drillBack(1), "0-1-1-1");
        for (int wrong : new int[] {-1, 5, Integer.MAX_VALUE}) {
            BENCH.throwsIndex("drillEngines", () -> x.drillEngines(wrong));
            BENCH.throwsIndex("drillBegin", () -> x.drillBegin(wrong));
            BENCH.throwsIndex("drillEnd", () -> x.drillEnd(wrong));
            BENCH.throwsIndex("drillBack", () -> x.drillBack(wrong));
        }
    }

    private static void promises34To37Violations() {
        DrillPlanner x = Bench.planner(FIELD);
        list(x, "");
        x.setStart(2, 2);
        x.setStart(3, 2);
        x.setStart(4, 2);
        x.setStart(1, 1);
        list(x, "1.1.1 2.1.4 2.2.2 2.3.3 ");
        x.setStart(1, 2);
        x.setStart(3, 5);
        x.setStart(0, 0);
        x.setStart(4, 4);
        x.setStart(2, 4);
        list(x, "2.4.1 4.1.4 5.3.3 ");
        DrillPlanner same = Bench.planner("node a;" + "drill x at a lasts 1 needs 1 pump;drill y at a lasts 1 needs 1 pump;");
        same.setStart(1, 7);
        same.setStart(0, 7);
        list(same, "7.3.0 7.3.1 ");
        DrillPlanner y = Bench.planner(ALONE);
        y.setStart(0, 1);
        y.setStart(1, 1);
        list(y, "1.3.1 1.5.0 2.5.0 ");
        DrillPlanner z = Bench.planner(ALONE.replace("street b", "engine l ladder at s;street b"));
        z.setStart(0, 1);
        list(z, "1.5.1 2.5.1 ");
        DrillPlanner open = Bench.planner("node a;street a within 120;");
        BENCH.same("never covered", open.violations(), 48);
        BENCH.same("last one", open.violationSlot(47) * 100 + open.violationCode(47) * 10 + open.violationSubject(47), 4750);
        for (int wrong : new int[] {-1, 48, Integer.MIN_VALUE, Integer.MAX_VALUE}) {
            BENCH.throwsIndex("violationCode", () -> open.violationCode(wrong));
            BENCH.throwsIndex("violationSlot", () -> open.violationSlot(wrong));
            BENCH.throwsIndex("violationSubject", () -> open.violationSubject(wrong));
        }
        DrillPlanner none = new DrillPlanner();
        BENCH.throwsIndex("violationCode of none", () -> none.violationCode(0));
        BENCH.throwsIndex("violationSlot of none", () -> none.violationSlot(0));
        BENCH.throwsIndex("violationSubject of none", () -> none.violationSubject(0));
    }

    /** The violations, each as its slot, its code and its subject. */
    private static void list(DrillPlanner x, String want) {
        StringBuilder got = new StringBuilder();
        for (int i = 0; i < x.violations(); i++) {
            got.append(x.violationSlot(i)).append('.').append(x.violationCode(i)).append('.').append(x.violationSubject(i))
                    .append(' ');
        }
        BENCH.same("violations", got, want);
    }

    private static void promises38And39Slots() {
        DrillPlanner x = Bench.planner(FIELD);
        BENCH.same("all", x.availableAt(0), 15);
        x.setStart(0, 1);
        int[] want = {15, 10, 10, 10, 14, 15};
        for (int slot = 0; slot < 6; slot++) {
            BENCH.same("availableAt " + slot, x.availableAt(slot), want[slot]);
        }
        BENCH.same("availableAt 47", x.availableAt(47), 15);
        x.setStart(3, 10);
        BENCH.same("a cancelled drill takes nothing", x.availableAt(10), 15);
        DrillPlanner y = Bench.planner(ALONE);
        y.setStart(0, 1);
        BENCH.same("uncoveredAt", "" + y.uncoveredAt(0) + y.uncoveredAt(1) + y.uncoveredAt(2) + y.uncoveredAt(3), "0330");
        for (int wrong : new int[] {-1, 48, Integer.MIN_VALUE, Integer.MAX_VALUE}) {
            BENCH.throwsIndex("availableAt", () -> x.availableAt(wrong));
            BENCH.throwsIndex("uncoveredAt", () -> x.uncoveredAt(wrong));
        }
    }

    private static void promises40To42Hoses() {
        DrillPlanner x = Bench.planner(FIELD);
        x.setStart(0, 0);
        x.setStart(1, 5);
        // Drill 0 uses 4 lengths until slot 3, drill 1 uses 3 lengths from slot 5 to slot 7.
        int[] dry = {2, 2, 2, 2, 2, 1, 1, 3, 3, 5, 5, 6};
        int[] wet = {0, 0, 0, 2, 2, 0, 0, 1, 1, 0, 0, 0};
        int[] drying = {0, 0, 0, 2, 2, 2, 2, 2, 2, 1, 1, 0};
        for (int slot = 0; slot < dry.length; slot++) {
            BENCH.same("dryHoses " + slot, x.dryHoses(slot), dry[slot]);
            BENCH.same("wetHoses " + slot, x.wetHoses(slot), wet[slot]);
            BENCH.same("dryingHoses " + slot, x.dryingHoses(slot), drying[slot]);
        }
        BENCH.same("dryHoses 47", x.dryHoses(47), 6);
        DrillPlanner slow = Bench.planner("node a;station s at a;engine p pump at s;hoses 40 dry 12 racks 1;"
                + "drill x at a lasts 1 needs 1 pump hose 40;");
        slow.setStart(0, 0);
        BENCH.same("one in twelve slots", slow.dryHoses(47) * 10000 + slow.wetHoses(47) * 100 + slow.dryingHoses(47), 33601);
        for (int wrong : new int[] {-1, 48, Integer.MIN_VALUE, Integer.MAX_VALUE}) {
            BENCH.throwsIndex("dryHoses", () -> x.dryHoses(wrong));
            BENCH.throwsIndex("wetHoses", () -> x.wetHoses(wrong));
            BENCH.throwsIndex("dryingHoses", () -> x.dryingHoses(wrong));
        }
    }

    private static void promises43To45() {
        DrillPlanner x = Bench.planner(FIELD);
        BENCH.same("nobody away", x.awaySlots(0), 0);
        BENCH.same("busiest of equals", x.busiestSlot(), 0);
        BENCH.same("no finish", x.finish(), 0);
        x.setStart(0, 4);
        BENCH.same("away", "" + x.awaySlots(0) + x.awaySlots(1) + x.awaySlots(2) + x.awaySlots(3), "4030");
        BENCH.same("busiest", x.busiestSlot(), 4);
        BENCH.same("finish", x.finish(), 7);
        x.setStart(1, 2);
        BENCH.same("two absences", x.awaySlots(0) * 10 + x.awaySlots(3), 23);
        BENCH.same("still two away first at 2", x.busiestSlot(), 2);
        x.setStart(1, -1);
        x.setStart(2, 7);
        BENCH.same("finish of the last one", x.finish(), 8);
        x.setStart(3, 20);
        BENCH.same("a cancelled drill has no end", x.finish(), 8);
        x.setStart(0, 0);
        x.setStart(2, 3);
        BENCH.same("away from slot 0 on", x.awaySlots(0), 4);
        BENCH.same("busiest with two drills", x.busiestSlot(), 0);
        for (int wrong : new int[] {-1, 4, Integer.MIN_VALUE, Integer.MAX_VALUE}) {
            BENCH.throwsIndex("awaySlots", () -> x.awaySlots(wrong));
        }
    }
}
