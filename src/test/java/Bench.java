/** What the tests share: checks that count, and planners that a text is typed into. */
final class Bench {
    interface Call {
        Object run();
    }

    private int checks;
    private int wrong;

    int checks() {
        return checks;
    }

    void same(String what, long got, long want) {
        checks++;
        if (got != want) {
            wrong++;
            System.out.println(what + " answered " + got + ", due is " + want);
        }
    }

    void same(String what, Object got, Object want) {
        checks++;
        if (!String.valueOf(got).equals(String.valueOf(want))) {
            wrong++;
            System.out.println(what + " answered " + got + ", due is " + want);
        }
    }

    void throwsIndex(String what, Call call) {
        same(what, outcome(call), "throws.IndexOutOfBoundsException");
    }

    void throwsArgument(String what, Call call) {
        same(what, outcome(call), "throws.IllegalArgumentException");
    }

    /** The answer of a call as a text, or the exact class of what it throws. */
    static String outcome(Call call) {
        try {
            return String.valueOf(call.run());
        } catch (RuntimeException e) {
            return "throws." + e.getClass().getSimpleName();
        }
    }

    /** Appends a text to the input buffer and cuts off the spaces that fill the last append. */
    static void type(DrillPlanner planner, String text) {
        int before = 0;
        for (int at = 0; at < text.length(); at += 20) {
            int[] words = words(text, at);
            int length = planner.appendInput(words[0], words[1], words[2], words[3], words[4]);
            before = length - 20;
        }
        if (text.length() % 20 != 0) {
            planner.truncateInput(before + text.length() % 20);
        }
    }

    /** The 20 bytes of a text from a place on, as five ints; behind its end there are spaces. */
    static int[] words(String text, int at) {
        int[] words = new int[5];
        for (int i = 0; i < 20; i++) {
            int sign = at + i < text.length() ? text.charAt(at + i) & 255 : ' ';
            words[i / 4] = words[i / 4] << 8 | sign;
        }
        return words;
    }

    static DrillPlanner planner(String text) {
        DrillPlanner planner = new DrillPlanner();
        type(planner, text);
        planner.loadBrigade();
        return planner;
    }

    /** Ends the test's run; a test without a check fails too. */
    void close(String test) {
        System.out.println(test + ": " + checks + " checks, " + wrong + " wrong");
        if (wrong != 0 || checks == 0) {
            System.exit(1);
        }
    }
}
