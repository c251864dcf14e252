import java.util.List;

/** The edges that the document names for brigade texts, the input buffer and names: promises 1 to 6 and 12. */
final class TextEdges {
    private static final String[] RESERVED = {"slot", "node", "road", "station", "engine", "street", "hoses", "drill", "at", "within",
        "dry", "racks", "lasts", "needs", "hose", "after", "from", "pump", "ladder", "rescue"};
    private static final List<String> FIRST_WORDS = List.of("slot", "node", "road", "station", "engine", "street", "hoses", "drill");
    /** A node a, a station s, an engine e and a drill d: one object of each sort of names. */
    private static final String ONE_OF_EACH = "node a;node b;station s at a;engine e pump at s;drill d at a lasts 1 needs 1 pump;";
    private static final String EMPTY_HOSES = "node a;station s at a;engine p pump at s;engine q pump at s;"
            + "drill x at a lasts 1 needs 1 pump hose 2;drill y at a lasts 1 needs 1 pump hose 2;";

    private final Edges edges;

    TextEdges(Edges edges) {
        this.edges = edges;
    }

    void run() {
        sizes();
        numbersOfStatements();
        numbersOfDrills();
        limits();
        names();
        tokens();
        syntax();
        otherErrors();
        limitErrors();
        afterLoads();
        promise1();
        promises2And3();
        promises4To6();
        promise12();
    }

    private void description(String quote) {
        edges.sentence(Document.DESCRIPTION, quote);
    }

    private void sizes() {
        description("The input buffer holds at most 1,000 bytes.");
        DrillPlanner x = new DrillPlanner();
        Bench.type(x, "node a" + " ".repeat(993) + ";");
        edges.same("1000 bytes", x.truncateInput(1000), true);
        edges.same("no more bytes", x.appendInput(0, 0, 0, 0, 0), -1);
        edges.same("load", x.loadBrigade(), 0);
        edges.same("nodes", x.nodes(), 1);
        edges.fails(" ".repeat(999) + "^?", DrillPlanner.SYNTAX);
        edges.fails("node a" + " ".repeat(994) + "^", DrillPlanner.SYNTAX);
        edges.fails("^" + ";".repeat(1000), DrillPlanner.SYNTAX);
        edges.fails("^" + "z".repeat(1000), DrillPlanner.SYNTAX);
        edges.fails("slot ^" + "1".repeat(995), DrillPlanner.SYNTAX);
        description("The text is a sequence of statements, each followed by a semicolon");
        edges.fails("node a^", DrillPlanner.SYNTAX);
        edges.fails("node a ^node b;", DrillPlanner.SYNTAX);
        edges.fails("node a;node b^", DrillPlanner.SYNTAX);
        edges.fails("node a;^;", DrillPlanner.SYNTAX);
        edges.fails("^;", DrillPlanner.SYNTAX);
        edges.fails("node a^,node b;", DrillPlanner.SYNTAX);
        description("it may be empty.");
        edges.loads("", 0);
        edges.loads("\n", 0);
        edges.loads(" ".repeat(1000), 0);
    }

    private void numbersOfStatements() {
        description("slot N the length of a slot, 10 to 60; the default is 30");
        edges.fails("slot ^9;", DrillPlanner.OUT_OF_RANGE);
        edges.fails("slot ^61;", DrillPlanner.OUT_OF_RANGE);
        edges.fails("slot ^0;", DrillPlanner.OUT_OF_RANGE);
        edges.fails("slot ^9999;", DrillPlanner.OUT_OF_RANGE);
        edges.same("slots of 10", slotsFor60Minutes("slot 10;"), 6);
        edges.same("slots of 11", slotsFor60Minutes("slot 11;"), 6);
        edges.same("slots of 60", slotsFor60Minutes("slot 60;"), 1);
        edges.same("slots of 59", slotsFor60Minutes("slot 59;"), 2);
        edges.same("slots of 30", slotsFor60Minutes(""), 2);
        description("road NAME NAME N two nodes");
        edges.fails(ONE_OF_EACH + "road ^s a 5;", DrillPlanner.BAD_NAME);
        edges.fails(ONE_OF_EACH + "road a ^e 5;", DrillPlanner.BAD_NAME);
        edges.fails(ONE_OF_EACH + "road a ^5;", DrillPlanner.SYNTAX);
        description("takes 1 to 60 minutes.");
        edges.fails("node a;node b;road a b ^0;", DrillPlanner.OUT_OF_RANGE);
        edges.fails("node a;node b;road a b ^61;", DrillPlanner.OUT_OF_RANGE);
        edges.same("a minute", edges.planner("node a;node b;road a b 1;").travelMinutes(0, 1), 1);
        edges.same("sixty minutes", edges.planner("node a;node b;road a b 60;").travelMinutes(0, 1), 60);
        description("A road joins two different nodes in both directions");
        edges.fails("node a;road a ^a 5;", DrillPlanner.BAD_NAME);
        edges.same("there", edges.planner("node a;node b;road b a 7;").travelMinutes(0, 1), 7);
        edges.same("back", edges.planner("node a;node b;road b a 7;").travelMinutes(1, 0), 7);
        description("station NAME at NAME the second name is a node");
        edges.fails(ONE_OF_EACH + "station t at ^s;", DrillPlanner.BAD_NAME);
        edges.fails(ONE_OF_EACH + "station t at ^t;", DrillPlanner.BAD_NAME);
        description("engine NAME KIND at NAME the second name is a station");
        edges.fails(ONE_OF_EACH + "engine f pump at ^a;", DrillPlanner.BAD_NAME);
        edges.fails(ONE_OF_EACH + "engine f pump at ^f;", DrillPlanner.BAD_NAME);
        streetNumbers();
        hoseNumbers();
    }

    private int slotsFor60Minutes(String slot) {
        return edges.planner(slot + "node a;node b;road a b 60;station s at a;engine e pump at s;drill d at b lasts 1 needs 1 pump;")
                .travelSlots(0, 0);
    }

    private void streetNumbers() {
        description("street NAME within N [KIND] a node, and 0 to 120 minutes");
        String far = "node a;node b;node c;road a b 60;road b c 60;station s at a;engine e pump at s;";
        edges.same("0 minutes at the station", edges.planner(far + "street a within 0;").uncovered(1), 0);
        edges.same("0 minutes elsewhere", edges.planner(far + "street b within 0;").uncovered(1), 1);
        edges.same("120 minutes", edges.planner(far + "street c within 120;").uncovered(1), 0);
        edges.same("119 minutes", edges.planner(far + "street c within 119;").uncovered(1), 1);
        edges.fails(far + "street a within ^121;", DrillPlanner.OUT_OF_RANGE);
        edges.fails(far + "street ^s within 9;", DrillPlanner.BAD_NAME);
        edges.loads(far + "street a within 9 rescue;", 0);
        edges.fails(far + "street a within 9 pump ^rescue;", DrillPlanner.SYNTAX);
    }

    private void hoseNumbers() {
        description("hoses N dry N racks N hose lengths, 0 to 40");
        edges.same("no lengths", edges.planner("hoses 0 dry 1 racks 1;").dryHoses(0), 0);
        edges.same("40 lengths", edges.planner("hoses 40 dry 1 racks 1;").dryHoses(0), 40);
        edges.fails("hoses ^41 dry 1 racks 1;", DrillPlanner.OUT_OF_RANGE);
        description("drying time in slots, 1 to 12");
        edges.fails("hoses 1 dry ^0 racks 1;", DrillPlanner.OUT_OF_RANGE);
        edges.fails("hoses 1 dry ^13 racks 1;", DrillPlanner.OUT_OF_RANGE);
        edges.same("dry in the next slot", firstDrySlot("hoses 2 dry 1 racks 2;"), 2);
        edges.same("dry after twelve slots", firstDrySlot("hoses 2 dry 12 racks 2;"), 13);
        description("rack places, 1 to 12;");
        edges.fails("hoses 1 dry 1 racks ^0;", DrillPlanner.OUT_OF_RANGE);
        edges.fails("hoses 1 dry 1 racks ^13;", DrillPlanner.OUT_OF_RANGE);
        edges.same("one place", dryingOfForty("racks 1;"), 1);
        edges.same("twelve places", dryingOfForty("racks 12;"), 12);
        description("the defaults are 0, 1 and 1");
        DrillPlanner x = edges.planner(EMPTY_HOSES);
        edges.same("no lengths", x.dryHoses(0), 0);
        edges.same("one rack place, one slot to dry", x.bestFinishWith(2, 1), 4);
        edges.same("one slot to dry", x.bestFinishWith(2, 2), 3);
        edges.same("lengths and places as they are", x.bestFinish(), -1);
        DrillPlanner y = edges.planner(EMPTY_HOSES + "hoses 4 dry 3 racks 3;");
        y.loadBrigade();
        Bench.type(y, EMPTY_HOSES);
        y.loadBrigade();
        edges.same("no lengths of an earlier text", y.dryHoses(0), 0);
        edges.same("no drying time of an earlier text", y.bestFinishWith(2, 2), 3);
    }

    /** The first slot in which a length is dry again that was used in slot 0. */
    private int firstDrySlot(String hoses) {
        DrillPlanner x = edges.planner(hoses + EMPTY_HOSES);
        x.setStart(0, 0);
        int slot = 0;
        while (slot < 47 && x.dryHoses(slot) < 2) {
            slot++;
        }
        return slot;
    }

    private int dryingOfForty(String racks) {
        DrillPlanner x = edges.planner("hoses 40 dry 9 " + racks + "node a;station s at a;engine p pump at s;"
                + "drill x at a lasts 1 needs 1 pump hose 40;");
        x.setStart(0, 0);
        return x.dryingHoses(1);
    }

    private void numbersOfDrills() {
        String four = "node a;station s at a;engine p pump at s;engine q pump at s;engine r pump at s;engine t pump at s;"
                + "hoses 40 dry 1 racks 1;";
        description("drill NAME at NAME lasts N needs N KIND {, N KIND} [hose N] [after NAME {, NAME}] [from N]");
        edges.loads(four + "drill d at a lasts 1 needs 1 pump;", 1);
        edges.loads(four + "drill d at a lasts 1 needs 1 pump,1 ladder,1 rescue hose 1 from 1;drill e at a lasts 1 needs 1 pump;"
                + "drill f at a lasts 1 needs 1 pump;drill g at a lasts 1 needs 1 pump;"
                + "drill h at a lasts 1 needs 1 rescue,1 ladder,1 pump hose 1 after g,d,f,e from 1;", 5);
        edges.fails(four + "drill d at a lasts 1 needs ^hose 1;", DrillPlanner.SYNTAX);
        edges.fails(four + "drill d at a lasts 1 needs 1 pump,^hose 1;", DrillPlanner.SYNTAX);
        edges.fails(four + "drill d at a lasts 1 needs 1 pump from 1 ^hose 1;", DrillPlanner.SYNTAX);
        edges.fails(four + "drill d at a lasts 1 needs 1 pump hose 1 ^hose 1;", DrillPlanner.SYNTAX);
        edges.fails(four + "drill d at a lasts 1 needs 1 pump from 1 ^from 1;", DrillPlanner.SYNTAX);
        edges.fails(ONE_OF_EACH + "drill x at a lasts 1 needs 1 pump after d ^hose 1;", DrillPlanner.SYNTAX);
        edges.fails(ONE_OF_EACH + "drill x at a lasts 1 needs 1 pump after ^;", DrillPlanner.SYNTAX);
        description("A drill takes place at a node");
        edges.fails(ONE_OF_EACH + "drill x at ^s lasts 1 needs 1 pump;", DrillPlanner.BAD_NAME);
        description("lasts 1 to 8 slots");
        edges.same("lasts 1", endOf(four + "drill d at a lasts 1 needs 1 pump;"), 1);
        edges.same("lasts 8", endOf(four + "drill d at a lasts 8 needs 1 pump;"), 8);
        edges.fails(four + "drill d at a lasts ^0 needs 1 pump;", DrillPlanner.OUT_OF_RANGE);
        edges.fails(four + "drill d at a lasts ^9 needs 1 pump;", DrillPlanner.OUT_OF_RANGE);
        description("needs 1 to 4 engines of each kind that it lists");
        edges.same("needs 1", enginesOf(four + "drill d at a lasts 1 needs 1 pump;"), 1);
        edges.same("needs 4", enginesOf(four + "drill d at a lasts 1 needs 4 pump;"), 15);
        edges.fails(four + "drill d at a lasts 1 needs ^0 pump;", DrillPlanner.OUT_OF_RANGE);
        edges.fails(four + "drill d at a lasts 1 needs ^5 pump;", DrillPlanner.OUT_OF_RANGE);
        edges.fails(four + "drill d at a lasts 1 needs 1 pump,^0 ladder;", DrillPlanner.OUT_OF_RANGE);
        edges.fails(four + "drill d at a lasts 1 needs 1 pump,1 ladder,^5 rescue;", DrillPlanner.OUT_OF_RANGE);
        otherNumbersOfDrills(four);
    }

    private void otherNumbersOfDrills(String four) {
        description("uses 0 to 40 hose lengths (0 without \"hose\")");
        edges.same("none", dryAfterStart(four + "drill d at a lasts 1 needs 1 pump hose 0;"), 40);
        edges.same("all", dryAfterStart(four + "drill d at a lasts 1 needs 1 pump hose 40;"), 0);
        edges.same("without hose", dryAfterStart(four + "drill d at a lasts 1 needs 1 pump;"), 40);
        edges.fails(four + "drill d at a lasts 1 needs 1 pump hose ^41;", DrillPlanner.OUT_OF_RANGE);
        description("comes after other drills that are given earlier in the text");
        edges.fails(ONE_OF_EACH + "drill x at a lasts 1 needs 1 pump after ^x;", DrillPlanner.BAD_NAME);
        edges.fails(ONE_OF_EACH + "drill x at a lasts 1 needs 1 pump after ^y;drill y at a lasts 1 needs 1 pump;",
                DrillPlanner.BAD_NAME);
        edges.fails(ONE_OF_EACH + "drill x at a lasts 1 needs 1 pump after d,^x;", DrillPlanner.BAD_NAME);
        edges.loads(ONE_OF_EACH + "drill x at a lasts 1 needs 1 pump after d;", 2);
        description("does not start before a slot, 0 to 23 (0 without \"from\").");
        edges.same("from 0", edges.planner(four + "drill d at a lasts 1 needs 1 pump from 0;").earliestStart(0), 0);
        edges.same("from 23", edges.planner(four + "drill d at a lasts 1 needs 1 pump from 23;").earliestStart(0), 23);
        edges.same("without from", edges.planner(four + "drill d at a lasts 1 needs 1 pump;").earliestStart(0), 0);
        edges.fails(four + "drill d at a lasts 1 needs 1 pump from ^24;", DrillPlanner.OUT_OF_RANGE);
        description("KIND is pump, ladder or rescue.");
        edges.loads(four + "engine u ladder at s;engine v rescue at s;street a within 1 ladder;", 0);
        edges.fails(four + "engine u ^truck at s;", DrillPlanner.SYNTAX);
        edges.fails(four + "engine u ^at s;", DrillPlanner.SYNTAX);
        // What a drill leaves out is not taken from a refused text that was read before.
        DrillPlanner x = edges.planner(four);
        Bench.type(x, four + "drill d at a lasts 9 needs 1 pump;");
        x.loadBrigade();
        Bench.type(x, four + "drill d at a lasts 8 needs 2 pump,1 rescue hose 9 from 9 ;drill e at a lasts 1 needs 1 pump after d from;");
        x.loadBrigade();
        Bench.type(x, four + "drill d at a lasts 1 needs 1 pump;drill e at a lasts 1 needs 1 pump;");
        x.loadBrigade();
        edges.same("starts at 0", x.earliestStart(0) + x.earliestStart(1), 0);
        x.setStart(0, 0);
        x.setStart(1, 0);
        edges.same("one pump each", x.drillEngines(0) * 10 + x.drillEngines(1), 12);
        edges.same("no hoses", x.dryHoses(0), 40);
    }

    private int endOf(String text) {
        DrillPlanner x = edges.planner(text);
        x.setStart(0, 0);
        return x.drillEnd(0);
    }

    private int enginesOf(String text) {
        DrillPlanner x = edges.planner(text);
        x.setStart(0, 0);
        return x.drillEngines(0);
    }

    private int dryAfterStart(String text) {
        DrillPlanner x = edges.planner(text);
        x.setStart(0, 0);
        return x.dryHoses(0);
    }

    private void limits() {
        description("There are at most 12 nodes, 20 roads, 6 stations, 10 engines, 12 streets and 5 drills.");
        limit("", "node n#;", 12);
        limit("node a;node b;", "road a b 1;", 20);
        limit("node a;", "station s# at a;", 6);
        limit("node a;station s at a;", "engine e# ladder at s;", 10);
        limit("node a;", "street a within 1;", 12);
        limit("node a;", "drill d# at a lasts 1 needs 1 pump;", 5);
        DrillPlanner x = edges.planner(Full.TEXT);
        edges.same("all limits at once", x.nodes() + "," + x.stations() + "," + x.engines() + "," + x.streets() + "," + x.drills(),
                "12,6,10,12,5");
        edges.same("the last road", x.travelMinutes(10, 11), 7);
        // What stood in the texts before counts for nothing, whether they were refused or not.
        for (String before : new String[] {"node;", Full.TEXT, Full.TEXT.substring(0, 996)}) {
            for (String text : new String[] {Full.TEXT, ONE_OF_EACH, ""}) {
                DrillPlanner y = Bench.planner(before);
                Bench.type(y, before);
                y.loadBrigade();
                Bench.type(y, text);
                y.loadBrigade();
                edges.same("as on a new object", Edges.all(y), Edges.all(Bench.planner(text)));
            }
        }
    }

    private void limit(String before, String statement, int most) {
        StringBuilder text = new StringBuilder(before);
        for (int i = 0; i < most; i++) {
            text.append(statement.replace('#', (char) ('a' + i)));
        }
        edges.loads(text.toString(), statement.startsWith("drill") ? most : 0);
        edges.fails(text + " ^" + statement.replace('#', 'z'), DrillPlanner.LIMIT_EXCEEDED);
    }

    private void names() {
        description("All names are different, whatever they name.");
        for (String given : new String[] {"a", "s", "e", "d"}) {
            edges.fails(ONE_OF_EACH + "node ^" + given + ";", DrillPlanner.BAD_NAME);
            edges.fails(ONE_OF_EACH + "station ^" + given + " at a;", DrillPlanner.BAD_NAME);
            edges.fails(ONE_OF_EACH + "engine ^" + given + " pump at s;", DrillPlanner.BAD_NAME);
            edges.fails(ONE_OF_EACH + "drill ^" + given + " at a lasts 1 needs 1 pump;", DrillPlanner.BAD_NAME);
        }
        edges.loads("node a;node aa;node aaa;node aaaa;node aaaaa;node aaaaaa;node ab;node ba;node zzzzzz;node zzzzz;", 0);
        // The last name of a full brigade is known as well as the first one.
        edges.fails(Full.TEXT.replace("drill dy ", "drill ^dx "), DrillPlanner.BAD_NAME);
        edges.fails(Full.TEXT.replace("drill dy ", "drill ^eb "), DrillPlanner.BAD_NAME);
        description("The reserved words are slot, node, road, station, engine, street, hoses, drill, at, within, dry, racks, lasts, "
                + "needs, hose, after, from, pump, ladder and rescue.");
        DrillPlanner x = edges.planner(ONE_OF_EACH);
        for (String word : RESERVED) {
            edges.fails("node ^" + word + ";", DrillPlanner.SYNTAX);
            edges.fails(ONE_OF_EACH + "road a ^" + word + " 1;", DrillPlanner.SYNTAX);
            Bench.type(x, word);
            edges.same("find " + word, x.find(), -1);
            // Words that differ in one letter only are names, if they are short enough.
            String start = word.substring(0, word.length() - 1);
            for (String near : new String[] {word.substring(1), "q" + word.substring(1), start + "q", start, word + "q"}) {
                if (near.length() <= 6 && !List.of(RESERVED).contains(near)) {
                    edges.loads("node " + near + ";", 0);
                }
            }
        }
        description("A name is a word of 1 to 6 letters that is not reserved.");
        edges.loads("node a;node zzzzzz;", 0);
        edges.fails("node ^zzzzzzz;", DrillPlanner.SYNTAX);
        edges.fails("node ^stationx;", DrillPlanner.SYNTAX);
        edges.fails("node ^7;", DrillPlanner.SYNTAX);
        edges.fails("node ^;", DrillPlanner.SYNTAX);
        description("A number has 1 to 4 digits.");
        edges.loads("hoses 1 dry 01 racks 001;", 0);
        edges.loads("hoses 0000 dry 0012 racks 0012;", 0);
        edges.fails("hoses ^00001 dry 1 racks 1;", DrillPlanner.SYNTAX);
        edges.fails("hoses ^9999 dry 1 racks 1;", DrillPlanner.OUT_OF_RANGE);
        edges.fails("hoses ^10000 dry 1 racks 1;", DrillPlanner.SYNTAX);
        edges.fails("hoses ^4294967297 dry 1 racks 1;", DrillPlanner.SYNTAX);
    }

    private void tokens() {
        description("A token is a word (a maximal run of the letters a to z), a number (a maximal run of digits), a semicolon or a "
                + "comma.");
        edges.loads("node a;node z;road a z 09;hoses 10 dry 9 racks 1;", 0);
        // Each byte beside those of the tokens belongs to none.
        for (int sign = 0; sign < 256; sign++) {
            boolean letter = sign >= 'a' && sign <= 'z';
            boolean digit = sign >= '0' && sign <= '9';
            if (!letter && !digit && sign != ';' && sign != ',' && sign != ' ' && sign != '\n') {
                edges.fails("node a^" + (char) sign + ";", DrillPlanner.SYNTAX);
                edges.fails("^" + (char) sign + "node a;", DrillPlanner.SYNTAX);
                edges.fails("slot 10^" + (char) sign + ";", DrillPlanner.SYNTAX);
                edges.fails("slot ^" + (char) sign + "10;", DrillPlanner.SYNTAX);
            }
        }
        edges.fails("^nodea;", DrillPlanner.SYNTAX);
        edges.fails("slot 10 ^0;", DrillPlanner.SYNTAX);
        edges.fails("node a ^b;", DrillPlanner.SYNTAX);
        edges.fails("node ab^0;", DrillPlanner.SYNTAX);
        edges.loads("slot10;node a;node b;road a b5;", 0);
        description("Spaces (32) and line feeds (10) may stand between tokens and are ignored there.");
        edges.loads("\n \n node\n\na\n ;\nnode b ; road a\nb  5\n;\n", 0);
        edges.fails("node a;^no de b;", DrillPlanner.SYNTAX);
        for (char sign : new char[] {0, 9, 11, 13, 31, 33, 160, 255}) {
            edges.fails("node^" + sign + "a;", DrillPlanner.SYNTAX);
        }
    }

    private void syntax() {
        description("SYNTAX: a token that cannot stand at its place");
        edges.fails("^a;", DrillPlanner.SYNTAX);
        edges.fails("^5;", DrillPlanner.SYNTAX);
        edges.fails("^,", DrillPlanner.SYNTAX);
        edges.fails("^at a;", DrillPlanner.SYNTAX);
        edges.fails("^pump;", DrillPlanner.SYNTAX);
        edges.fails("hoses 1 dry 1 racks 1 ^node;", DrillPlanner.SYNTAX);
        edges.fails("hoses 1 ^racks 1;", DrillPlanner.SYNTAX);
        for (String text : new String[] {"slot ^;", "hoses ^dry 1 racks 1;", "hoses 1 dry ^racks 1;", "hoses 1 dry 1 racks ^;", "hoses 1 dry 1 ^;"}) {
            edges.fails(text, DrillPlanner.SYNTAX);
        }
        for (String text : new String[] {"road ^5;", "road a ^5;", "road a b ^;", "road a b ^pump;", "station ^at a;", "station t ^a;",
            "station t at ^;", "engine ^pump at s;", "engine f ^at s;", "engine f pump ^s;", "engine f pump at ^;", "street ^within 5;",
            "street a ^5;", "street a within ^;", "street a within ^pump;", "drill ^at a;", "drill x ^lasts 1;", "drill x at ^lasts 1;",
            "drill x at a lasts ^needs 1 pump;", "drill x at a lasts 1 needs ^pump;", "drill x at a lasts 1 needs 1 ^;",
            "drill x at a lasts 1 needs 1 pump,1 ^;", "drill x at a lasts 1 needs 1 pump hose ^;", "drill x at a lasts 1 needs 1 pump from ^;",
            "drill x at a lasts 1 needs 1 pump hose 1 ^,"}) {
            edges.fails(ONE_OF_EACH + text, DrillPlanner.SYNTAX);
        }
        edges.fails(ONE_OF_EACH + "drill x ^lasts 1;", DrillPlanner.SYNTAX);
        edges.fails(ONE_OF_EACH + "drill x at a ^needs 1 pump;", DrillPlanner.SYNTAX);
        edges.fails(ONE_OF_EACH + "drill x at a lasts 1 ^hose 1;", DrillPlanner.SYNTAX);
        for (String word : RESERVED) {
            if (!FIRST_WORDS.contains(word)) {
                edges.fails("^" + word + " a;", DrillPlanner.SYNTAX);
            }
        }
        description("a word or number that is too long");
        edges.fails("node ^abcdefg;", DrillPlanner.SYNTAX);
        edges.fails("^stations s at a;", DrillPlanner.SYNTAX);
        edges.fails("slot ^00030;", DrillPlanner.SYNTAX);
        edges.fails("slot ^99999;", DrillPlanner.SYNTAX);
        description("a byte that belongs to no token");
        edges.fails("node ^A;", DrillPlanner.SYNTAX);
        edges.fails("slot ^-9;", DrillPlanner.SYNTAX);
        edges.fails("slot 10^.;", DrillPlanner.SYNTAX);
        edges.fails("node a;^\u00e9", DrillPlanner.SYNTAX);
        edges.fails("slot ^\u00b9;", DrillPlanner.SYNTAX);
        description("or the end of the text where more is required.");
        String whole = ONE_OF_EACH + "road a b 5;street a within 5;hoses 1 dry 1 racks 1;slot 20;";
        for (int length = 1; length < whole.length(); length++) {
            String begun = whole.substring(0, length);
            // A cut inside a word leaves another word; behind a space or a whole token there is nothing else wrong.
            if (begun.endsWith(" ") || whole.charAt(length) == ' ') {
                edges.fails(begun + "^", DrillPlanner.SYNTAX);
            }
        }
        description("The offset is that of the first byte of the token, or the length of the text.");
        edges.fails("node a;\n\n ^abcdefgh;", DrillPlanner.SYNTAX);
        edges.fails("slot   ^12345", DrillPlanner.SYNTAX);
        edges.fails("node a  \n^", DrillPlanner.SYNTAX);
        edges.fails("node^", DrillPlanner.SYNTAX);
        edges.fails("node a;   ^at;", DrillPlanner.SYNTAX);
    }

    private void otherErrors() {
        description("A text is parsed from left to right, and the first error met is reported, with an offset in bytes from 0:");
        edges.fails("slot ^9;^node;", DrillPlanner.OUT_OF_RANGE);
        edges.fails("node a;node ^a ?", DrillPlanner.BAD_NAME);
        edges.fails("node a;road a ^a 99;", DrillPlanner.BAD_NAME);
        edges.fails("^NODE 99999", DrillPlanner.SYNTAX);
        edges.fails(ONE_OF_EACH + "drill x at a lasts 1 needs ^9 pump,1 pump;", DrillPlanner.OUT_OF_RANGE);
        description("OUT_OF_RANGE: a number out of its range, at its first byte.");
        edges.fails("slot   ^0061 ;", DrillPlanner.OUT_OF_RANGE);
        edges.fails("hoses\n^41", DrillPlanner.OUT_OF_RANGE);
        edges.fails("slot ^9", DrillPlanner.OUT_OF_RANGE);
        description("BAD_NAME: a name that is to be given and is given already");
        edges.fails("node a;node ^a;", DrillPlanner.BAD_NAME);
        edges.fails(ONE_OF_EACH + "drill ^d;", DrillPlanner.BAD_NAME);
        description("a name that does not name an object of the required sort");
        edges.fails(ONE_OF_EACH + "street ^z within 5;", DrillPlanner.BAD_NAME);
        edges.fails(ONE_OF_EACH + "street ^d within 5;", DrillPlanner.BAD_NAME);
        edges.fails(ONE_OF_EACH + "engine f pump at ^e;", DrillPlanner.BAD_NAME);
        edges.fails(ONE_OF_EACH + "drill x at ^x;", DrillPlanner.BAD_NAME);
        edges.fails(ONE_OF_EACH + "drill x at a lasts 1 needs 1 pump after ^e;", DrillPlanner.BAD_NAME);
        edges.fails("road ^a b 5;node a;node b;", DrillPlanner.BAD_NAME);
        description("the second node of a road that equals the first one");
        edges.fails(ONE_OF_EACH + "road b ^b 5;", DrillPlanner.BAD_NAME);
        description("a kind that the same drill lists already");
        edges.fails(ONE_OF_EACH + "drill x at a lasts 1 needs 1 pump,1 ^pump;", DrillPlanner.BAD_NAME);
        edges.fails(ONE_OF_EACH + "drill x at a lasts 1 needs 1 pump,2 ladder,3 rescue,4 ^rescue;", DrillPlanner.BAD_NAME);
        edges.fails(ONE_OF_EACH + "drill x at a lasts 1 needs 4 rescue,1 ladder,1 ^rescue;", DrillPlanner.BAD_NAME);
        edges.loads(ONE_OF_EACH + "drill x at a lasts 1 needs 1 pump;drill y at a lasts 1 needs 1 pump;", 3);
        description("a drill that the same \"after\" lists already.");
        String five = ONE_OF_EACH + "drill w at a lasts 1 needs 1 pump;drill x at a lasts 1 needs 1 pump;"
                + "drill y at a lasts 1 needs 1 pump;";
        edges.fails(five + "drill z at a lasts 1 needs 1 pump after d,^d;", DrillPlanner.BAD_NAME);
        edges.fails(five + "drill z at a lasts 1 needs 1 pump after d,w,x,y,^y;", DrillPlanner.BAD_NAME);
        edges.fails(five + "drill z at a lasts 1 needs 1 pump after y,x,^y;", DrillPlanner.BAD_NAME);
        edges.loads(ONE_OF_EACH + "drill x at a lasts 1 needs 1 pump after d;drill y at a lasts 1 needs 1 pump after d;", 3);
        description("The offset is that of the first byte of the name or kind.");
        edges.fails("node abc; node  ^abc ;", DrillPlanner.BAD_NAME);
        edges.fails("node abc;road abc\n^abc 5;", DrillPlanner.BAD_NAME);
        edges.fails(ONE_OF_EACH + "drill x at a lasts 1 needs 1 ladder , 1   ^ladder;", DrillPlanner.BAD_NAME);
    }

    private void limitErrors() {
        description("LIMIT_EXCEEDED: a statement that would exceed a limit above");
        StringBuilder nodes = new StringBuilder();
        for (char sign = 'a'; sign < 'm'; sign++) {
            nodes.append("node ").append(sign).append(';');
        }
        edges.fails(nodes + "^node m;", DrillPlanner.LIMIT_EXCEEDED);
        edges.fails(nodes + "^node", DrillPlanner.LIMIT_EXCEEDED);
        edges.fails(nodes + "^node a;", DrillPlanner.LIMIT_EXCEEDED);
        edges.fails(nodes + "station s at a; ^node m;", DrillPlanner.LIMIT_EXCEEDED);
        edges.loads(nodes + "station s at l;", 0);
        description("or a second slot or hoses statement, at its first word.");
        edges.fails("slot 10; ^slot 10;", DrillPlanner.LIMIT_EXCEEDED);
        edges.fails("slot 10; ^slot 99;", DrillPlanner.LIMIT_EXCEEDED);
        edges.fails("hoses 0 dry 1 racks 1;node a;\n^hoses 0 dry 1 racks 1;", DrillPlanner.LIMIT_EXCEEDED);
        edges.fails("hoses 9 dry 1 racks 1;slot 30;^hoses", DrillPlanner.LIMIT_EXCEEDED);
        DrillPlanner x = edges.planner("slot 10;hoses 1 dry 1 racks 1;");
        Bench.type(x, "slot 20;hoses 2 dry 1 racks 1;");
        edges.same("one in each text", x.loadBrigade(), 0);
    }

    private void afterLoads() {
        description("An error changes nothing but the input buffer and the reported error.");
        for (String wrong : new String[] {"?", "slot 9;", "node a;node a;", "slot 10;slot 10;",
            Full.TEXT.substring(0, Full.TEXT.length() - 1), "node q;slot 60;hoses 1 dry 1 racks 1;station a at q;engine b pump at a;road"}) {
            DrillPlanner asked = Full.busy();
            Bench.type(asked, wrong);
            edges.same("load " + wrong, asked.loadBrigade(), -1);
            edges.same("buffer is empty after " + wrong, asked.truncateInput(1), false);
            edges.same("an error of " + wrong, asked.errorCode() != DrillPlanner.NO_ERROR, true);
            edges.same("state after " + wrong, Edges.all(asked).replaceFirst("brigade \\d+ -?\\d+", ""),
                    Edges.all(Full.busy()).replaceFirst("brigade \\d+ -?\\d+", ""));
            Bench.type(asked, "dx");
            asked.find();
        }
        DrillPlanner named = Full.busy();
        Bench.type(named, "node new;node old;node new;");
        named.loadBrigade();
        Bench.type(named, "old");
        edges.same("no name of the refused text", named.find(), -1);
        Bench.type(named, "dy");
        edges.same("a name of the text before", named.find(), 304);
        description("A successful load replaces everything: no drill has a start, and nothing can be undone.");
        DrillPlanner x = Full.busy();
        Bench.type(x, Full.TEXT);
        edges.same("load", x.loadBrigade(), 5);
        edges.same("starts", Edges.starts(x), " - - - - -");
        edges.same("undo", x.undo(), -1);
        edges.same("violations", x.violations(), 0);
        edges.same("all", Edges.all(x), Edges.all(Bench.planner(Full.TEXT)));
        DrillPlanner y = Full.busy();
        y.loadBrigade();
        edges.same("an empty text", Edges.all(y), Edges.all(new DrillPlanner()));
        Bench.type(y, Full.TEXT);
        y.loadBrigade();
        edges.same("the full text behind it", Edges.all(y), Edges.all(Bench.planner(Full.TEXT)));
        // Lengths that dried in early slots of the brigade before are not those of the next one.
        DrillPlanner wet = edges.planner("hoses 4 dry 1 racks 4;" + EMPTY_HOSES);
        wet.setStart(0, 0);
        edges.same("dry again", wet.dryHoses(2), 4);
        Bench.type(wet, "hoses 4 dry 12 racks 4;" + EMPTY_HOSES);
        wet.loadBrigade();
        edges.same("all dry", wet.dryHoses(2) * 10 + wet.dryHoses(3), 44);
        wet.setStart(0, 0);
        edges.same("still drying", wet.dryHoses(2) * 10 + wet.dryingHoses(2), 22);
        DrillPlanner z = Full.busy();
        Bench.type(z, ONE_OF_EACH);
        z.loadBrigade();
        edges.same("a small text", Edges.all(z), Edges.all(Bench.planner(ONE_OF_EACH)));
    }

    private void promise1() {
        edges.sentence("1", "Creates a planner as an empty brigade text defines it, with an empty input buffer.");
        edges.same("buffer", new DrillPlanner().truncateInput(1), false);
        edges.same("first append", new DrillPlanner().appendInput(0, 0, 0, 0, 0), 20);
        edges.same("answers", Edges.all(new DrillPlanner()), Edges.all(Bench.planner("")));
        for (int i = 0; i < 2; i++) {
            DrillPlanner x = i == 0 ? new DrillPlanner() : Bench.planner("");
            edges.same("compact", x.compact(), 0);
            edges.same("violations after compact", x.violations(), 0);
            edges.same("schedule", x.schedule(0), 0);
            edges.same("clearStarts", x.clearStarts(), 0);
            edges.same("undo", x.undo() * 100 + x.undo() * 10 + x.undo(), 210);
            edges.same("no more undo", x.undo(), -1);
            edges.same("violations after undo", x.violations(), 0);
            edges.same("finish", x.finish(), 0);
            edges.same("find", x.find(), -1);
            edges.same("busiestSlot", x.busiestSlot(), 0);
            edges.same("weakestStreet", x.weakestStreet(0), -1);
            edges.throwsArgument("uncovered", () -> x.uncovered(1));
            edges.throwsIndex("travelMinutes", () -> x.travelMinutes(0, 0));
        }
    }

    private void promises2And3() {
        edges.sentence("2", "Appends 20 bytes to the input buffer: the four bytes of each parameter, the most significant byte first.");
        // One byte that belongs to no token, at each place in turn, in spaces.
        for (int place = 0; place < 20; place++) {
            int[] words = Bench.words(" ".repeat(place) + (char) (255 - place), 0);
            DrillPlanner x = new DrillPlanner();
            edges.same("appendInput", x.appendInput(words[0], words[1], words[2], words[3], words[4]), 20);
            x.loadBrigade();
            edges.same("offset", x.errorOffset(), place);
        }
        edges.sentence("2", "Returns the new length of the input buffer; -1, with no change, if it would exceed 1,000.");
        DrillPlanner x = new DrillPlanner();
        for (int length = 20; length <= 1000; length += 20) {
            edges.same("appendInput", x.appendInput(0x20202020, 0x20202020, 0x20202020, 0x20202020, 0x20202020), length);
        }
        edges.same("at 1000", x.appendInput(0, 0, 0, 0, 0), -1);
        edges.same("at 1000 again", x.appendInput(-1, -1, -1, -1, -1), -1);
        edges.same("length stays", x.truncateInput(1001), false);
        edges.same("cut to 981", x.truncateInput(981), true);
        edges.same("at 981", x.appendInput(0, 0, 0, 0, 0), -1);
        edges.same("length is still 981", x.truncateInput(982), false);
        edges.same("cut to 980", x.truncateInput(980), true);
        edges.same("at 980", x.appendInput(0x20202020, 0x20202020, 0x20202020, 0x20202020, 0x20202020), 1000);
        edges.same("load of nothing but spaces", x.loadBrigade(), 0);
        edges.same("at 0 again", x.appendInput(0, 0, 0, 0, 0), 20);
        edges.sentence("3", "Returns true; false, with no change, if length is negative or greater than the current length.");
        DrillPlanner y = new DrillPlanner();
        edges.same("0 of 0", y.truncateInput(0), true);
        edges.same("1 of 0", y.truncateInput(1), false);
        edges.same("-1 of 0", y.truncateInput(-1), false);
        Bench.type(y, "node a;node b;node c;");
        edges.same("22 of 21", y.truncateInput(22), false);
        edges.same("-1 of 21", y.truncateInput(-1), false);
        edges.same("least", y.truncateInput(Integer.MIN_VALUE), false);
        edges.same("greatest", y.truncateInput(Integer.MAX_VALUE), false);
        edges.same("21 of 21", y.truncateInput(21), true);
        edges.same("no change", y.appendInput(0x20202020, 0x20202020, 0x20202020, 0x20202020, 0x20202020), 41);
        edges.same("14 of 41", y.truncateInput(14), true);
        edges.same("41 of 14", y.truncateInput(41), false);
        edges.same("load", y.loadBrigade(), 0);
        edges.same("nodes", y.nodes(), 2);
        Bench.type(y, "node a;");
        edges.same("0 of 7", y.truncateInput(0), true);
        y.loadBrigade();
        edges.same("nothing is left", y.nodes(), 0);
    }

    private void promises4To6() {
        edges.sentence("4", "empties the buffer, whether the load succeeds or not.");
        for (String text : new String[] {ONE_OF_EACH, "?", "slot 9;", "slot 10;slot 10;", "node a;node a;"}) {
            DrillPlanner x = Bench.planner(text);
            edges.same("buffer after " + text, x.truncateInput(1), false);
            edges.same("append after " + text, x.appendInput(0, 0, 0, 0, 0), 20);
        }
        edges.sentence("4", "Returns the number of drills; -1 if there is an error.");
        edges.loads("", 0);
        edges.loads(ONE_OF_EACH, 1);
        edges.loads(Full.TEXT, 5);
        edges.fails(Full.TEXT + "^?", DrillPlanner.SYNTAX);
        DrillPlanner x = new DrillPlanner();
        edges.sentence("5", "NO_ERROR if that call succeeded or there was no call.");
        edges.same("no call", x.errorCode(), DrillPlanner.NO_ERROR);
        x.loadBrigade();
        edges.same("success", x.errorCode(), DrillPlanner.NO_ERROR);
        edges.sentence("6", "Returns the offset; -1 if errorCode() is NO_ERROR.");
        edges.same("no call", new DrillPlanner().errorOffset(), -1);
        edges.same("success", x.errorOffset(), -1);
        edges.sentence("5", "Returns the error of the latest call of loadBrigade.");
        Bench.type(x, " ?");
        x.loadBrigade();
        edges.same("SYNTAX", x.errorCode(), DrillPlanner.SYNTAX);
        Bench.type(x, "slot 9;");
        edges.same("before the next call", x.errorCode(), DrillPlanner.SYNTAX);
        x.loadBrigade();
        edges.same("OUT_OF_RANGE", x.errorCode(), DrillPlanner.OUT_OF_RANGE);
        edges.sentence("6", "Returns the offset of the error of the latest call of loadBrigade.");
        edges.same("offset", x.errorOffset(), 5);
        Bench.type(x, "   ?");
        x.find();
        edges.same("find is no load", x.errorOffset() * 10 + x.errorCode(), 52);
        Bench.type(x, "?");
        x.loadBrigade();
        edges.same("offset 0", x.errorOffset(), 0);
        x.loadBrigade();
        edges.same("after a success", x.errorOffset() * 10 + x.errorCode(), -10);
    }

    private void promise12() {
        DrillPlanner x = edges.planner(Full.TEXT);
        edges.sentence("12", "Finds an object by the name in the input buffer and empties the buffer.");
        for (String name : new String[] {"a", "nobody", "?", "a b"}) {
            Bench.type(x, name);
            x.find();
            edges.same("buffer after " + name, x.truncateInput(1), false);
        }
        edges.sentence("12", "Spaces and line feeds before and after the name are ignored.");
        finds(x, " \n a\n  \n", 0);
        finds(x, " ".repeat(999) + "l", 11);
        finds(x, "l" + " ".repeat(999), 11);
        finds(x, "\ta", -1);
        finds(x, "a\r", -1);
        edges.sentence("12", "Returns 100 * sort + number, where the sort is 0 for a node, 1 for a station, 2 for an engine, 3 for a drill");
        finds(x, "a", 0);
        finds(x, "l", 11);
        finds(x, "m", 100);
        finds(x, "r", 105);
        finds(x, "s", 200);
        finds(x, "eb", 209);
        finds(x, "du", 300);
        finds(x, "dy", 304);
        edges.sentence("12", "-1 if the input buffer does not hold just one name of an object.");
        for (String wrong : new String[] {"", " ", "\n", "nobody", "a a", "a b", "a;", ";a", "a,", "7", "7a", "a7", "aaaaaaa", "node a", "slot",
            "stations", "A", "a\u0000", "\u00e1"}) {
            finds(x, wrong, -1);
        }
    }

    private void finds(DrillPlanner x, String name, int want) {
        Bench.type(x, name);
        edges.same("find <" + name + ">", x.find(), want);
    }
}
