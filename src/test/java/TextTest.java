/** Promises 1 to 6 and 12: a new object, the input buffer, brigade texts with their errors, and names. */
public final class TextTest {
    private static final String SMALL = "node a;node b;road a b 30;station s at a;engine p pump at s;street b within 30;"
            + "hoses 5 dry 2 racks 3;drill x at b lasts 2 needs 1 pump hose 1;drill y at a lasts 1 needs 1 pump;";
    private static final Bench BENCH = new Bench();

    public static void main(String[] args) {
        promise1NewObject();
        promise2AppendInput();
        promise3TruncateInput();
        promise4LoadBrigade();
        promise4Limits();
        promise4LeavesAllAloneAfterAnError();
        promises5And6Syntax();
        promises5And6OtherErrors();
        promises5And6Reports();
        promise12Find();
        examples();
        BENCH.close("TextTest");
    }

    private static void promise1NewObject() {
        DrillPlanner x = new DrillPlanner();
        BENCH.same("new errorCode", x.errorCode(), DrillPlanner.NO_ERROR);
        BENCH.same("new errorOffset", x.errorOffset(), -1);
        BENCH.same("new truncateInput 1", x.truncateInput(1), false);
        BENCH.same("new nodes", x.nodes() + x.stations() + x.engines() + x.streets() + x.drills(), 0);
        BENCH.same("new find", x.find(), -1);
        BENCH.same("new undo", x.undo(), -1);
        BENCH.same("new clearStarts", x.clearStarts(), 0);
        BENCH.same("new uncovered", x.uncovered(0), 0);
        BENCH.same("new violations", x.violations(), 0);
        BENCH.same("new availableAt", x.availableAt(47), 0);
        BENCH.same("new hoses", x.dryHoses(0) + x.wetHoses(0) + x.dryingHoses(0), 0);
        BENCH.same("new busiestSlot", x.busiestSlot(), 0);
        BENCH.same("new finish", x.finish(), 0);
        BENCH.same("new compact", x.compact(), 0);
        BENCH.same("new bestFinish", x.bestFinish(), 0);
        BENCH.same("new bestOrder", x.bestOrder(), 0);
        BENCH.same("new bestFinishWith", x.bestFinishWith(0, 1), 0);
        BENCH.same("new enoughRacks", x.enoughRacks(), 1);
        BENCH.throwsIndex("new travelMinutes", () -> x.travelMinutes(0, 0));
        BENCH.throwsIndex("new start", () -> x.start(0));
        BENCH.throwsIndex("new bestFinishWithout", () -> x.bestFinishWithout(0));
        BENCH.throwsArgument("new uncovered 1", () -> x.uncovered(1));
        BENCH.throwsArgument("new schedule 1", () -> x.schedule(1));
    }

    private static void promise2AppendInput() {
        DrillPlanner x = new DrillPlanner();
        for (int length = 20; length <= 1000; length += 20) {
            BENCH.same("appendInput", x.appendInput(0x20202020, 0x20202020, 0x20202020, 0x20202020, 0x20202020), length);
        }
        BENCH.same("appendInput full", x.appendInput(0, 0, 0, 0, 0), -1);
        BENCH.same("full length", x.truncateInput(1001), false);
        BENCH.same("truncateInput 981", x.truncateInput(981), true);
        BENCH.same("appendInput at 981", x.appendInput(0, 0, 0, 0, 0), -1);
        BENCH.same("unchanged length", x.truncateInput(982), false);
        BENCH.same("loadBrigade of spaces", x.loadBrigade(), 0);
        Bench.type(x, " ".repeat(980));
        BENCH.same("appendInput at 980", x.appendInput(0x6e6f6465, 0x20612020, 0x20202020, 0x20202020, 0x2020203b), 1000);
        BENCH.same("loadBrigade of 1000 bytes", x.loadBrigade(), 0);
        BENCH.same("nodes of 1000 bytes", x.nodes(), 1);
        // The most significant byte comes first: each place of a 20-byte text is met in its turn.
        for (int place = 0; place < 20; place++) {
            StringBuilder text = new StringBuilder(" ".repeat(20));
            text.setCharAt(place, (char) (128 + place));
            Bench.type(x, text.toString());
            x.loadBrigade();
            BENCH.same("offset of byte " + place, x.errorOffset(), place);
        }
    }

    private static void promise3TruncateInput() {
        DrillPlanner x = new DrillPlanner();
        BENCH.same("truncateInput 0 of 0", x.truncateInput(0), true);
        BENCH.same("truncateInput -1 of 0", x.truncateInput(-1), false);
        Bench.type(x, "node a;node b;node c;");
        BENCH.same("truncateInput too long", x.truncateInput(22), false);
        BENCH.same("truncateInput negative", x.truncateInput(Integer.MIN_VALUE), false);
        BENCH.same("truncateInput huge", x.truncateInput(Integer.MAX_VALUE), false);
        BENCH.same("truncateInput same", x.truncateInput(21), true);
        BENCH.same("truncateInput shorter", x.truncateInput(14), true);
        BENCH.same("truncateInput back", x.truncateInput(15), false);
        x.loadBrigade();
        BENCH.same("nodes after truncateInput", x.nodes(), 2);
    }

    private static void promise4LoadBrigade() {
        DrillPlanner x = Bench.planner(SMALL);
        BENCH.same("errorCode of SMALL", x.errorCode(), 0);
        BENCH.same("counts of SMALL", "" + x.nodes() + x.stations() + x.engines() + x.streets() + x.drills(), "21112");
        Bench.type(x, SMALL);
        BENCH.same("loadBrigade again", x.loadBrigade(), 2);
        BENCH.same("buffer after loadBrigade", x.truncateInput(1), false);
        x.setStart(0, 3);
        BENCH.same("loadBrigade of nothing", x.loadBrigade(), 0);
        BENCH.same("counts of nothing", x.nodes() + x.stations() + x.engines() + x.streets() + x.drills(), 0);
        BENCH.same("undo after loadBrigade", x.undo(), -1);
        Bench.type(x, SMALL);
        x.loadBrigade();
        BENCH.same("start after loadBrigade", x.start(0), -1);
        BENCH.same("undo after second load", x.undo(), -1);
        Bench.type(x, "node;");
        x.loadBrigade();
        BENCH.same("buffer after an error", x.truncateInput(1), false);
        // Tokens need nothing between them; spaces and line feeds are ignored wherever they stand between tokens.
        loads("node a;node b;road a b 7;station s at a;engine e rescue at s;drill d at b lasts2needs1rescue hose3from4;", 1);
        loads("\n\n node\na\n;\n \nslot10;hoses0dry1racks1\n;", 0);
        loads("slot 0060;node a;street a within 0;street a within 120 ladder;", 0);
        loads("hoses 40 dry 12 racks 12;", 0);
        loads("node slots;node abcdef;node a;", 0);
        loads("node dode;node drila;node poses;node ump;node aresc;node hos;node dryy;node inside;", 0);
        loads("node a;node b;node aa;node ab;node ba;node az;node z;node zz;node zzzzzz;node aaaaaa;node za;node aaa;", 0);
        loads("node a;node b;road a b 1;road a b 60;road b a 5;", 0);
        loads("node a;drill d at a lasts 8 needs 4 pump,4 ladder,4 rescue hose 40 from 23;"
                + "drill e at a lasts 1 needs 1 rescue hose 0 after d from 0;"
                + "drill f at a lasts 1 needs 1 ladder after e,d;", 3);
        defaults();
    }

    private static void defaults() {
        DrillPlanner x = Bench.planner("node a;node b;road a b 31;station s at a;engine p pump at s;"
                + "drill d at b lasts 1 needs 1 pump;");
        BENCH.same("default slot", x.travelSlots(0, 0), 2);
        BENCH.same("default lengths", x.dryHoses(0), 0);
        BENCH.same("default from", x.earliestStart(0), 0);
        // With 2 lengths, drying takes the default of 1 slot and the default of 1 place: the second one waits.
        DrillPlanner y = Bench.planner("node a;station s at a;engine p pump at s;hoses 2 dry 1 racks 1;"
                + "drill d at a lasts 1 needs 1 pump hose 2;drill e at a lasts 1 needs 1 pump hose 2;");
        BENCH.same("one rack place", y.bestFinish(), 4);
        DrillPlanner z = Bench.planner("node a;station s at a;engine p pump at s;"
                + "drill d at a lasts 1 needs 1 pump hose 2;drill e at a lasts 1 needs 1 pump hose 2;");
        BENCH.same("default drying and racks", z.bestFinish(), -1);
        BENCH.same("default drying with lengths", z.bestFinishWith(2, 1), 4);
    }

    private static void loads(String text, int drills) {
        DrillPlanner x = new DrillPlanner();
        Bench.type(x, text);
        BENCH.same("load " + text, x.loadBrigade(), drills);
        BENCH.same("errorCode of " + text, x.errorCode(), 0);
        BENCH.same("errorOffset of " + text, x.errorOffset(), -1);
    }

    private static void promise4Limits() {
        limit("", "node n#;", 12);
        limit("node a;node b;", "road a b 1;", 20);
        limit("node a;", "station s# at a;", 6);
        limit("node a;station s at a;", "engine e# ladder at s;", 10);
        limit("node a;", "street a within 1;", 12);
        limit("node a;", "drill d# at a lasts 1 needs 1 pump;", 5);
        limit("", "slot 10;", 1);
        limit("", "hoses 1 dry 1 racks 1;", 1);
    }

    private static void limit(String before, String statement, int most) {
        StringBuilder text = new StringBuilder(before);
        for (int i = 0; i < most; i++) {
            text.append(statement.replace('#', (char) ('a' + i)));
        }
        loads(text.toString(), statement.startsWith("drill") ? most : 0);
        int offset = text.length() + 1;
        String first = statement.substring(0, statement.indexOf(' '));
        fails(text + " " + statement.replace('#', 'z'), DrillPlanner.LIMIT_EXCEEDED, offset);
        // The first word is met before whatever is wrong behind it.
        fails(text + "\n" + first, DrillPlanner.LIMIT_EXCEEDED, offset);
    }

    private static void promise4LeavesAllAloneAfterAnError() {
        DrillPlanner x = Bench.planner(SMALL);
        x.setStart(0, 4);
        x.setStart(1, 9);
        Bench.type(x, "node z;node y;slot 10;hoses 9 dry 9 racks 9;node z;");
        BENCH.same("load with an error", x.loadBrigade(), -1);
        BENCH.same("errorCode", x.errorCode(), DrillPlanner.BAD_NAME);
        BENCH.same("counts", "" + x.nodes() + x.stations() + x.engines() + x.streets() + x.drills(), "21112");
        BENCH.same("starts", x.start(0) * 100 + x.start(1), 409);
        BENCH.same("dryHoses", x.dryHoses(0), 5);
        BENCH.same("travelMinutes", x.travelMinutes(0, 1), 30);
        BENCH.same("travelSlots", x.travelSlots(0, 0), 1);
        BENCH.same("uncovered", x.uncovered(0), 1);
        BENCH.same("drillEnd", x.drillEnd(0), 7);
        Bench.type(x, "x");
        BENCH.same("names", x.find(), 300);
        Bench.type(x, "z");
        BENCH.same("no names of the refused text", x.find(), -1);
        BENCH.same("undo", x.undo(), 1);
        BENCH.same("start after undo", x.start(1), -1);
    }

    private static void fails(String text, int code, int offset) {
        DrillPlanner x = new DrillPlanner();
        Bench.type(x, text);
        BENCH.same("load " + text, x.loadBrigade(), -1);
        BENCH.same("errorCode of " + text, x.errorCode(), code);
        BENCH.same("errorOffset of " + text, x.errorOffset(), offset);
    }

    /** The text is wrong at the sign '^', which is taken out. */
    private static void failsAtMark(String marked, int code) {
        int offset = marked.indexOf('^');
        fails(marked.substring(0, offset) + marked.substring(offset + 1), code, offset);
    }

    private static void promises5And6Syntax() {
        String town = "node a;node b;station s at a;drill d at a lasts 1 needs 1 pump;";
        String[] texts = {"^x;", "^7;", "^;", "^,", "^within;", "^NODE a;", "^nodes a;", "^\t", "node a;^;", "node ^;",
            "node a^", "node a   ^", "node^", "node a^,", "node ^slot;", "node ^rescue;", "node ^station;", "node ^7;",
            "node ^abcdefg;", "node a^7;", "node a^B;", "node ^A;", "node a ^b;", "node a^\u00ff;", "node a;^\u0000",
            "slot ^;", "slot ^a;", "slot ^00020;", "slot ^12345;", "slot 20 ^30;", "slot 20^,", "slot^",
            "road ^1 b 5;", "node a;node b;road a b ^c;", "node a;node b;road a b ^;", "node a;node b;road a b 5 ^6;",
            "node a;node b;road a ^5;", "station ^at a;", "node a;station s ^in a;", "node a;station s ^a;",
            "node a;station s at ^;", "engine e ^at s;", "engine e ^truck at s;", "engine e ^pumps at s;",
            "node a;street a ^5;", "node a;street a within ^pump;", "node a;street a within 5 ^at;",
            "node a;street a within 5 pump ^ladder;", "node a;street a within 5 ^a;", "hoses ^dry 1 racks 1;",
            "hoses 1 ^racks 1;", "hoses 1 dry 1 ^;", "hoses 1 dry 1 racks ^;", "hoses 1 dry 1 racks 1 ^1;",
            "drill ^after at a;", "node a;drill d ^lasts 1;", "node a;drill d at a ^needs 1 pump;",
            "node a;drill d at a lasts 1 ^;", "node a;drill d at a lasts 1 needs ^pump;",
            "node a;drill d at a lasts 1 needs 1 ^a;", "node a;drill d at a lasts 1 needs 1 ^;",
            "node a;drill d at a lasts 1 needs 1 pump ^2 ladder;", "node a;drill d at a lasts 1 needs 1 pump, ^ladder;",
            "node a;drill d at a lasts 1 needs 1 pump,^;", "node a;drill d at a lasts 1 needs 1 pump hose ^;",
            "node a;drill d at a lasts 1 needs 1 pump hose 1 ^hose 1;", "node a;drill d at a lasts 1 needs 1 pump from 1 ^hose 1;",
            "node a;drill d at a lasts 1 needs 1 pump from 1 ^after d;", town + "drill e at a lasts 1 needs 1 pump after ^;",
            town + "drill e at a lasts 1 needs 1 pump after d,^;", town + "drill e at a lasts 1 needs 1 pump after d ^d;",
            town + "drill e at a lasts 1 needs 1 pump after d ^hose 1;", town + "drill e at a lasts 1 needs 1 pump after ^from 1;",
            "node a;drill d at a lasts 1 needs 1 pump from ^a;", "node a;drill d at a lasts 1 needs 1 pump from 1^",
            "node a;drill d at a lasts 1 needs 1 pump^"};
        for (String text : texts) {
            failsAtMark(text, DrillPlanner.SYNTAX);
        }
    }

    private static void promises5And6OtherErrors() {
        String start = "node a;node b;station s at a;engine e pump at s;drill d at a lasts 1 needs 1 pump;";
        String[] ranges = {"slot ^9;", "slot ^61;", "slot ^9999 9;", "road a b ^0;", "road a b ^61 x;", "street a within ^121;",
            "hoses ^41 dry 1 racks 1;", "hoses 1 dry ^0 racks 1;", "hoses 1 dry ^13 racks 1;", "hoses 1 dry 1 racks ^0;",
            "hoses 1 dry 1 racks ^13;", "drill x at a lasts ^0 needs 1 pump;", "drill x at a lasts ^9 needs 1 pump;",
            "drill x at a lasts 1 needs ^0 pump;", "drill x at a lasts 1 needs ^5 pump;",
            "drill x at a lasts 1 needs 1 pump,^5 pump;", "drill x at a lasts 1 needs 1 pump hose ^41;",
            "drill x at a lasts 1 needs 1 pump from ^24;"};
        for (String text : ranges) {
            failsAtMark(start + text, DrillPlanner.OUT_OF_RANGE);
        }
        String[] names = {"node ^a;", "node ^s;", "node ^e;", "node ^d;", "station ^a at a;", "station ^d at a;", "engine ^b pump at s;",
            "engine ^e pump at s;", "drill ^d at a lasts 1 needs 1 pump;", "drill ^a at a;", "road ^c a 5;", "road a ^c 5;",
            "road a ^a 5;", "road ^s a 5;", "road a ^e 500;", "station t at ^s;", "station t at ^t;", "station t at ^e;",
            "engine f pump at ^a;", "engine f pump at ^f;", "engine f pump at ^d;", "street ^s within 5;", "street ^z within 5;",
            "drill x at ^s lasts 1 needs 1 pump;", "drill x at ^x lasts 1 needs 1 pump;", "drill x at ^z;",
            "drill x at a lasts 1 needs 1 pump,1 ^pump;", "drill x at a lasts 1 needs 1 pump,1 ladder,2 rescue,1 ^ladder;",
            "drill x at a lasts 1 needs 1 pump after ^x;", "drill x at a lasts 1 needs 1 pump after ^a;",
            "drill x at a lasts 1 needs 1 pump after ^y;drill y at a lasts 1 needs 1 pump;",
            "drill x at a lasts 1 needs 1 pump after d,^d;", "drill x at a lasts 1 needs 1 pump after d, ^e;"};
        for (String text : names) {
            failsAtMark(start + text, DrillPlanner.BAD_NAME);
        }
        // The first error in the text is the one that is told.
        failsAtMark("slot ^9;node slot;node", DrillPlanner.OUT_OF_RANGE);
        failsAtMark("node a;road a ^a 0;", DrillPlanner.BAD_NAME);
    }

    private static void promises5And6Reports() {
        DrillPlanner x = Bench.planner("slot 9;");
        BENCH.same("errorCode", x.errorCode(), DrillPlanner.OUT_OF_RANGE);
        BENCH.same("errorOffset", x.errorOffset(), 5);
        Bench.type(x, "q");
        x.find();
        x.clearStarts();
        BENCH.same("errorCode stays", x.errorCode(), DrillPlanner.OUT_OF_RANGE);
        Bench.type(x, "^");
        x.loadBrigade();
        BENCH.same("errorCode of the latest", x.errorCode(), DrillPlanner.SYNTAX);
        BENCH.same("errorOffset of the latest", x.errorOffset(), 0);
        x.loadBrigade();
        BENCH.same("errorCode after success", x.errorCode(), DrillPlanner.NO_ERROR);
        BENCH.same("errorOffset after success", x.errorOffset(), -1);
    }

    private static void promise12Find() {
        String text = "node a;node abcdef;station s at a;station t at a;engine e pump at s;engine f pump at s;engine g pump at s;"
                + "drill d at a lasts 1 needs 1 pump;";
        DrillPlanner x = Bench.planner(text);
        finds(x, "a", 0);
        finds(x, "abcdef", 1);
        finds(x, "s", 100);
        finds(x, "\n t \n\n", 101);
        finds(x, " g", 202);
        finds(x, "d ", 300);
        for (String wrong : new String[] {"", " ", "b", "abcde", "abcdefg", "a b", "a a", "a;", "a,", ";a", "7", "a7", "7a", "A", "a\t",
            "\u00e1", "pump", "node", "node a", "aaaaaaaaaaaaaaaaaaaaaaaaaaaaaaaa"}) {
            finds(x, wrong, -1);
        }
        BENCH.same("errorCode after find", x.errorCode(), 0);
    }

    private static void finds(DrillPlanner x, String name, int want) {
        Bench.type(x, name);
        BENCH.same("find <" + name + ">", x.find(), want);
        BENCH.same("buffer after find <" + name + ">", x.truncateInput(1), false);
    }

    private static void examples() {
        DrillPlanner one = new DrillPlanner();
        one.appendInput(1852793957, 543243123, 1952543849, 1869488243, 543257632);
        one.appendInput(1631282542, 1734962789, 544219248, 1970106400, 1635000435);
        BENCH.same("example 1 appendInput", one.appendInput(997422194, 1701147680, 1629517673, 1952999790, 540359456), 60);
        BENCH.same("example 1 truncateInput", one.truncateInput(59), true);
        BENCH.same("example 1 loadBrigade", one.loadBrigade(), 0);
        BENCH.same("example 1 uncovered", one.uncovered(1) * 10 + one.uncovered(0), 1);
        BENCH.same("example 1 criticalEngine", one.criticalEngine(), 0);
        BENCH.same("example 1 safeAbsences", one.safeAbsences(), 0);
        DrillPlanner two = Bench.planner("node a;station s at a;engine p pump at s;engine q pump at s;"
                + "hoses 2 dry 3 racks 1;drill x at a lasts 2 needs 1 pump hose 2;");
        BENCH.same("example 2 setStart", two.setStart(0, 4), -1);
        BENCH.same("example 2 drillEnd", two.drillEnd(0), 6);
        BENCH.same("example 2 dryHoses 4", two.dryHoses(4), 0);
        BENCH.same("example 2 wetHoses 6", two.wetHoses(6), 1);
        BENCH.same("example 2 dryHoses 9", two.dryHoses(9), 1);
        BENCH.same("example 2 bestFinish", two.bestFinish(), 2);
        DrillPlanner x = new DrillPlanner();
        x.appendInput(1852793957, 543243122, 1868653600, 1629512224, 859512864);
        BENCH.same("example 3 truncateInput", x.truncateInput(18), true);
        BENCH.same("example 3 loadBrigade", x.loadBrigade(), -1);
        BENCH.same("example 3 errorCode", x.errorCode(), 3);
        BENCH.same("example 3 errorOffset", x.errorOffset(), 14);
    }
}
