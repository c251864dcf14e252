/** How the class is used: README.md shows this file and what it prints. */
public final class Example {
    private static final String BRIGADE = "slot 30; node depot; node mill; road depot mill 25;\n"
            + "station main at depot; station west at mill;\n"
            + "engine red pump at main; engine blue pump at main; engine green ladder at west;\n"
            + "street depot within 10; street mill within 30 pump;\n"
            + "hoses 6 dry 3 racks 2;\n"
            + "drill foam at mill lasts 2 needs 1 pump hose 4;\n"
            + "drill climb at depot lasts 1 needs 1 pump, 1 ladder hose 3 after foam;\n";

    public static void main(String[] args) {
        DrillPlanner planner = new DrillPlanner();
        type(planner, BRIGADE);
        int drills = planner.loadBrigade();
        System.out.println("drills " + drills + ", engines " + planner.engines());
        System.out.println("uncovered without engine 0 and 1: set " + planner.uncovered(0b100));

        int order = planner.bestOrder();
        System.out.println("best order " + order + " ends at " + planner.schedule(order));
        for (int drill = 0; drill < drills; drill++) {
            System.out.println("drill " + drill + " from " + planner.start(drill) + " to " + planner.drillEnd(drill)
                    + " with engines " + planner.drillEngines(drill));
        }

        planner.setStart(1, 4);
        for (int i = 0; i < planner.violations(); i++) {
            System.out.println("violation " + planner.violationCode(i) + " in slot " + planner.violationSlot(i)
                    + ", subject " + planner.violationSubject(i));
        }
        System.out.println("drill 1 could start at " + planner.earliestStart(1) + ", edits to undo " + planner.undo());

        type(planner, "node a; road a b 5;");
        System.out.println("load " + planner.loadBrigade() + ", error " + planner.errorCode() + " at " + planner.errorOffset());
    }

    /** Types a text into the empty input buffer: 20 bytes a call, then the spaces behind its end are cut off. */
    private static void type(DrillPlanner planner, String text) {
        for (int at = 0; at < text.length(); at += 20) {
            planner.appendInput(word(text, at), word(text, at + 4), word(text, at + 8), word(text, at + 12), word(text, at + 16));
        }
        planner.truncateInput(text.length());
    }

    private static int word(String text, int from) {
        int word = 0;
        for (int at = from; at < from + 4; at++) {
            word = word << 8 | (at < text.length() ? text.charAt(at) & 255 : ' ');
        }
        return word;
    }
}
