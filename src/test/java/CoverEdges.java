/** The edges that the document names for ways, engines and cover: promises 7 to 11 and 13 to 24. */
final class CoverEdges {
    /** Ways: a-b 10, b-c 20, a-c 30 over b; nothing leads to i. */
    private static final String ROADS = "slot 20;node a;node b;node c;node i;road a b 10;road b c 20;road c a 45;";
    private static final String RING = "node a;station s at a;station t at a;station u at a;station v at a;";
    private static final String CREW = "node a;station s at a;engine p pump at s;engine q pump at s;engine l ladder at s;";
    /** The full brigade, in which the last street names a kind. */
    private static final String LAST_STREET = Full.TEXT.replace(" from2", "").replace("street l within0;", "street l within0#;");

    private final Edges edges;

    CoverEdges(Edges edges) {
        this.edges = edges;
    }

    void run() {
        ways();
        streets();
        ring();
        moves();
        promises7To11();
        promise13();
        promise14();
        promises15And16();
        promise17();
        promise18();
        promise19();
        promise20();
        promise21();
        promise22();
        promise23();
        promise24();
    }

    private void description(String quote) {
        edges.sentence(Document.DESCRIPTION, quote);
    }

    private void ways() {
        description("The travel time between two nodes is the length of a shortest way along roads, 0 for the same node.");
        DrillPlanner x = edges.planner(ROADS);
        edges.same("two roads are shorter than one", x.travelMinutes(0, 2), 30);
        edges.same("the same node", x.travelMinutes(2, 2), 0);
        edges.same("the same node without a road", x.travelMinutes(3, 3), 0);
        edges.same("the shortest of three roads", edges.planner("node a;node b;road a b 9;road b a 4;road a b 7;").travelMinutes(0, 1), 4);
        StringBuilder chain = new StringBuilder();
        for (char node = 'a'; node <= 'l'; node++) {
            chain.append("node ").append(node).append(';');
        }
        for (char node = 'l'; node > 'a'; node--) {
            chain.append("road ").append(node).append(' ').append((char) (node - 1)).append(" 60;");
        }
        edges.same("eleven roads of 60", edges.planner(chain.toString()).travelMinutes(0, 11), 660);
        edges.same("no longer with a road", edges.planner(chain + "road l a 59;").travelMinutes(0, 11), 59);
        edges.same("from the middle", edges.planner(chain + "road l a 59;").travelMinutes(1, 10), 179);
        description("The travel slots of an engine to a node are the travel time from its home station to the node divided by the length "
                + "of a slot, rounded up.");
        edges.same("0 minutes", slots("slot 10;", 0), 0);
        edges.same("1 of 10", slots("slot 10;", 1), 1);
        edges.same("10 of 10", slots("slot 10;", 10), 1);
        edges.same("11 of 10", slots("slot 10;", 11), 2);
        edges.same("1 of 60", slots("slot 60;", 1), 1);
        edges.same("60 of 60", slots("slot 60;", 60), 1);
        edges.same("60 of 59", slots("slot 59;", 60), 2);
        edges.same("30 of 30", slots("", 30), 1);
        edges.same("31 of 30", slots("", 31), 2);
        edges.same("60 of 10", slots("slot 10;", 60), 6);
    }

    private int slots(String slot, int minutes) {
        String road = minutes == 0 ? "" : "road a b " + minutes + ";";
        return edges.planner(slot + "node a;node b;" + road + "station s at a;station t at b;engine e pump at t;drill d at "
                + (minutes == 0 ? "b" : "a") + " lasts 1 needs 1 pump;").travelSlots(0, 0);
    }

    private void streets() {
        description("each sort is numbered from 0 in the order of its statements in the brigade text.");
        DrillPlanner full = edges.planner(Full.TEXT);
        edges.same("first and last engine", full.homeStation(0) * 10 + full.homeStation(9), 5);
        edges.same("last street", full.nearestMinutes(1023, 11) * 10 + full.nearestMinutes(1023, 10), 7);
        edges.same("last drill", full.travelSlots(9, 4) * 10 + full.travelSlots(0, 0), 60);
        description("A street is covered if an available engine of its kind (of any kind if it names none) is at a station from which the "
                + "travel time to the street's node is at most its number of minutes.");
        String town = "node a;node b;node i;road a b 30;station s at a;engine p pump at s;engine l ladder at s;";
        edges.same("just in time", edges.planner(town + "street b within 30;").uncovered(1), 0);
        edges.same("a minute late", edges.planner(town + "street b within 29;").uncovered(1), 1);
        edges.same("at the node", edges.planner(town + "street a within 0;").uncovered(2), 0);
        edges.same("no way", edges.planner(town + "street i within 120;").uncovered(3), 1);
        edges.same("the wrong kind", edges.planner(town + "street a within 120 ladder;").uncovered(1), 1);
        edges.same("the right kind", edges.planner(town + "street a within 120 ladder;").uncovered(2), 0);
        edges.same("a kind that there is not", edges.planner(town + "street a within 120 rescue;").uncovered(3), 1);
        edges.same("no engine", edges.planner(town + "street a within 120;").uncovered(0), 1);
        description("A street is a requirement: at its node, an engine must be able to arrive within a number of minutes; if the street names "
                + "a kind, it must be an engine of this kind.");
        DrillPlanner kinds = edges.planner(town + "engine r rescue at s;station t at i;engine z ladder at t;street a within 0 pump;street a within 0 ladder;"
                + "street a within 0 rescue;street a within 0;");
        edges.same("pump", kinds.uncovered(1), 6);
        edges.same("ladder", kinds.uncovered(2), 5);
        edges.same("rescue", kinds.uncovered(4), 3);
        edges.same("all kinds", kinds.uncovered(15), 0);
        description("Several streets may have the same node.");
        StringBuilder twelve = new StringBuilder(town);
        for (int i = 0; i < 12; i++) {
            twelve.append("street b within ").append(i == 11 ? 29 : 30).append(i == 10 ? " ladder;" : ";");
        }
        edges.same("all twelve", edges.planner(twelve.toString()).uncovered(1), 3072);
        description("other bits are 0.");
        edges.same("twelve streets", edges.planner(twelve.toString()).uncovered(0), 4095);
        edges.same("ten engines", full.availableAt(0), 1023);
        edges.same("no engines", new DrillPlanner().availableAt(0), 0);
    }

    private void ring() {
        description("Each available engine is at its home station at first.");
        DrillPlanner home = edges.planner(RING + "engine e pump at v;engine f pump at t;engine g pump at s;engine h pump at u;");
        posts(home, 15, "3,1,0,2");
        posts(home, 2, "-1,1,-1,-1");
        description("The stations form a ring in the order of their numbers, station 0 behind the last one.");
        // Station 3 is empty: station 0 comes before station 1, although both have an engine to spare.
        posts(edges.planner(RING + "engine e pump at s;engine f pump at s;engine g pump at t;engine h pump at t;engine i pump at u;"),
                31, "0,3,1,1,2");
        // Station 2 is empty: station 3 comes first, not 0.
        posts(edges.planner(RING + "engine e pump at s;engine f pump at s;engine g pump at t;engine h pump at v;engine i pump at v;"),
                31, "0,0,1,3,2");
        // Station 1 is empty: the ring ends with station 0.
        posts(edges.planner(RING + "engine e pump at s;engine f pump at s;engine g pump at u;engine h pump at v;"), 15, "0,1,2,3");
        posts(edges.planner("node a;station s at a;station t at a;engine e pump at s;engine f pump at s;"), 3, "0,1");
        description("For each station in ascending order at which no available engine is then");
        // There is one engine to spare for two empty stations.
        posts(edges.planner(RING + "engine e pump at v;engine f pump at v;engine g pump at t;"), 7, "3,0,1");
        // Station 0 takes the spare engine before station 3 comes, to which the spare engine would be nearer.
        posts(edges.planner(RING + "engine e pump at t;engine f pump at u;engine g pump at u;"), 7, "1,2,0");
    }

    private void moves() {
        description("the first one is taken at which at least two available engines are then");
        DrillPlanner two = edges.planner(RING + "engine e pump at t;engine f pump at u;engine g pump at u;engine h pump at v;engine i pump "
                + "at v;engine j pump at v;");
        posts(two, 63, "1,2,0,3,3,3");
        posts(two, 61, "1,-1,2,3,3,0");
        posts(two, 45, "1,-1,2,3,-1,0");
        posts(two, 13, "1,-1,2,3,-1,-1");
        // After the first move, station 1 has one engine only.
        posts(edges.planner(RING + "engine e pump at t;engine f pump at t;engine g pump at u;engine h pump at u;"), 15, "1,0,2,3");
        description("of these, the engine with the greatest number moves to the station without an engine.");
        StringBuilder ten = new StringBuilder("node a;station s at a;station t at a;station u at a;station v at a;station w at a;"
                + "station x at a;");
        for (char name = 'a'; name <= 'j'; name++) {
            ten.append("engine e").append(name).append(" pump at x;");
        }
        DrillPlanner last = edges.planner(ten.toString());
        posts(last, 1023, "5,5,5,5,5,4,3,2,1,0");
        posts(last, 3, "5,0,-1,-1,-1,-1,-1,-1,-1,-1");
        posts(last, 513, "5,-1,-1,-1,-1,-1,-1,-1,-1,0");
        posts(last, 511, "5,5,5,5,4,3,2,1,0,-1");
        // An engine that has moved is one of those at its new station.
        posts(edges.planner("node a;station s at a;station t at a;engine e pump at t;engine f pump at t;engine g pump at s;"), 3, "1,0,-1");
        description("If there is no such other station, nothing happens.");
        posts(edges.planner("node a;station s at a;engine e pump at s;"), 1, "0");
        posts(edges.planner("node a;station s at a;engine e pump at s;"), 0, "-1");
        posts(edges.planner("node a;station s at a;station t at a;engine e pump at t;"), 1, "1");
        posts(edges.planner(RING + "engine e pump at v;engine f pump at t;"), 3, "3,1");
        DrillPlanner nobody = edges.planner(RING + "street a within 1;");
        edges.same("stations without engines", nobody.uncovered(0), 1);
    }

    private void posts(DrillPlanner x, int available, String want) {
        StringBuilder got = new StringBuilder();
        for (int engine = 0; engine < x.engines(); engine++) {
            got.append(engine == 0 ? "" : ",").append(x.coverStation(available, engine));
        }
        edges.same("stations of " + available, got, want);
    }

    private void promises7To11() {
        DrillPlanner none = new DrillPlanner();
        DrillPlanner full = edges.planner(Full.TEXT);
        DrillPlanner one = edges.planner("node a;node b;road a b 1;station s at a;engine e pump at s;street a within 1;street a within 1;"
                + "street a within 1;drill d at a lasts 1 needs 1 pump;");
        edges.sentence("7", "Returns the number of nodes.");
        edges.same("none, some, all", none.nodes() + "," + one.nodes() + "," + full.nodes(), "0,2,12");
        edges.sentence("8", "Returns the number of stations.");
        edges.same("none, some, all", none.stations() + "," + one.stations() + "," + full.stations(), "0,1,6");
        edges.sentence("9", "Returns the number of engines.");
        edges.same("none, some, all", none.engines() + "," + one.engines() + "," + full.engines(), "0,1,10");
        edges.sentence("10", "Returns the number of streets.");
        edges.same("none, some, all", none.streets() + "," + one.streets() + "," + full.streets(), "0,3,12");
        edges.sentence("11", "Returns the number of drills.");
        edges.same("none, some, all", none.drills() + "," + one.drills() + "," + full.drills(), "0,1,5");
    }

    private void promise13() {
        DrillPlanner x = edges.planner(ROADS);
        edges.sentence("13", "Returns the minutes; -1 if there is no way.");
        edges.same("no way", x.travelMinutes(0, 3), -1);
        edges.same("no way back", x.travelMinutes(3, 2), -1);
        edges.same("a way", x.travelMinutes(1, 2), 20);
        edges.sentence("13", "Throws IndexOutOfBoundsException if from or to is out of range");
        edges.onlyIndexes("from", 4, from -> x.travelMinutes(from, 0));
        edges.onlyIndexes("to", 4, to -> x.travelMinutes(0, to));
        edges.onlyIndexes("both", 4, node -> x.travelMinutes(node, node));
        edges.onlyIndexes("from of a full brigade", 12, from -> Bench.planner(Full.TEXT).travelMinutes(from, 11));
        edges.onlyIndexes("to without nodes", 0, to -> new DrillPlanner().travelMinutes(to, to));
    }

    private void promise14() {
        DrillPlanner x = edges.planner(ROADS + "station s at a;engine p pump at s;engine q ladder at s;drill d at c lasts 1 needs 4 rescue;"
                + "drill e at i lasts 1 needs 1 pump;drill f at a lasts 1 needs 1 pump;");
        edges.sentence("14", "Returns the travel slots; -1 if there is no way.");
        edges.same("30 minutes of 20", x.travelSlots(0, 0), 2);
        edges.same("an engine that the drill does not need", x.travelSlots(1, 0), 2);
        edges.same("no way", x.travelSlots(0, 1), -1);
        edges.same("0 slots", x.travelSlots(1, 2), 0);
        StringBuilder far = new StringBuilder("slot 10;");
        for (char node = 'a'; node <= 'l'; node++) {
            far.append("node ").append(node).append(';').append(node == 'a' ? "" : "road " + node + " " + (char) (node - 1) + " 60;");
        }
        edges.same("most slots", edges.planner(far + "station s at a;engine p pump at s;drill z at l lasts 1 needs 1 pump;").travelSlots(0, 0),
                66);
        edges.sentence("14", "Throws IndexOutOfBoundsException if engine or drill is out of range");
        edges.onlyIndexes("engine", 2, engine -> x.travelSlots(engine, 0));
        edges.onlyIndexes("drill", 3, drill -> x.travelSlots(0, drill));
        DrillPlanner full = edges.planner(Full.TEXT);
        edges.onlyIndexes("one of ten engines", 10, engine -> full.travelSlots(engine, 4));
        edges.onlyIndexes("one of five drills", 5, drill -> full.travelSlots(9, drill));
    }

    private void promises15And16() {
        DrillPlanner x = edges.planner("node a;station s at a;station t at a;engine p pump at t;engine q ladder at s;engine r rescue at t;");
        DrillPlanner full = edges.planner(Full.TEXT);
        edges.sentence("15", "Returns the home station of an engine.");
        edges.same("homes", x.homeStation(0) * 100 + x.homeStation(1) * 10 + x.homeStation(2), 101);
        edges.same("last of six", full.homeStation(9), 5);
        edges.sentence("15", "Throws IndexOutOfBoundsException if engine is out of range");
        edges.onlyIndexes("homeStation", 3, x::homeStation);
        edges.onlyIndexes("homeStation of ten", 10, full::homeStation);
        edges.sentence("16", "Returns 0 for a pump, 1 for a ladder, 2 for a rescue engine.");
        edges.same("kinds", x.engineKind(0) * 100 + x.engineKind(1) * 10 + x.engineKind(2), 12);
        edges.sentence("16", "Throws IndexOutOfBoundsException if engine is out of range");
        edges.onlyIndexes("engineKind", 3, x::engineKind);
        edges.onlyIndexes("engineKind of ten", 10, full::engineKind);
        edges.onlyIndexes("engineKind of none", 0, new DrillPlanner()::engineKind);
    }

    private void promise17() {
        DrillPlanner x = edges.planner(RING + "engine e pump at v;engine f pump at v;engine g pump at t;");
        DrillPlanner full = edges.planner(Full.TEXT);
        edges.sentence("17", "Returns the station at which an engine is after the moves along the ring, if given engines are available.");
        edges.same("moves for a station whose engine is not available", x.coverStation(3, 1), 0);
        edges.same("moves to the next empty station", edges.planner(RING + "engine e pump at s;engine f pump at s;engine g pump at t;")
                .coverStation(3, 1), 1);
        edges.same("no move from an engine that is alone", x.coverStation(6, 1), 3);
        edges.sentence("17", "Returns number of the station; -1 if the engine is not available.");
        edges.same("moved", x.coverStation(7, 1), 0);
        edges.same("not available", x.coverStation(5, 1), -1);
        edges.same("nobody available", x.coverStation(0, 1), -1);
        edges.same("the last engine away", full.coverStation(511, 9), -1);
        edges.same("the last engine at home", full.coverStation(1023, 9), 5);
        edges.sentence("17", "Throws IndexOutOfBoundsException if engine is out of range");
        edges.onlyIndexes("coverStation", 3, engine -> x.coverStation(7, engine));
        edges.onlyIndexes("coverStation of ten", 10, engine -> full.coverStation(1023, engine));
        edges.sentence("17", "Throws IllegalArgumentException if available has a bit that stands for no engine");
        edges.onlySetsOfEngines("coverStation", x, set -> x.coverStation(set, 2));
        edges.onlySetsOfEngines("coverStation of ten", full, set -> full.coverStation(set, 9));
        both(x, 3);
    }

    private void both(DrillPlanner x, int engines) {
        edges.sentence(Document.DESCRIPTION,
                "If several exceptions apply to a call, IndexOutOfBoundsException comes first, then IllegalArgumentException.");
        edges.throwsIndex("coverStation", () -> x.coverStation(1 << engines, engines));
        edges.throwsIndex("coverStation", () -> x.coverStation(-1, -1));
        edges.throwsIndex("nearestMinutes", () -> x.nearestMinutes(1 << engines, 0));
        edges.throwsIndex("coveringEngines", () -> x.coveringEngines(-1, 12));
        edges.throwsIndex("setStart", () -> x.setStart(0, 24));
        edges.throwsIndex("setStart", () -> x.setStart(-1, -2));
    }

    private void promise18() {
        DrillPlanner x = edges.planner(CREW + "street a within 0 ladder;street a within 0 pump;");
        edges.sentence("18", "Returns the streets that are not covered if given engines are available.");
        edges.same("after a move", edges.planner("node a;node b;station s at a;station t at b;engine e pump at t;engine f pump at t;"
                + "street a within 0;street b within 0;").uncovered(3), 0);
        edges.same("by a move", edges.planner("node a;node b;station s at a;station t at b;engine e ladder at t;engine f pump at t;"
                + "street a within 0;street b within 0 pump;").uncovered(3), 2);
        edges.sentence("18", "Returns the set of streets.");
        edges.same("all engines", x.uncovered(7), 0);
        edges.same("no engines", x.uncovered(0), 3);
        edges.same("pumps", x.uncovered(3), 1);
        edges.same("no streets", edges.planner(CREW).uncovered(7), 0);
        edges.same("only the last street", edges.planner(LAST_STREET.replace("#", "pump")).uncovered(1023), 2048);
        DrillPlanner full = edges.planner(Full.TEXT);
        edges.same("only the last engine", full.uncovered(512), 1023);
        edges.same("only the first engine", full.uncovered(1), 4092);
        edges.sentence("18", "Throws IllegalArgumentException if available has a bit that stands for no engine");
        edges.onlySetsOfEngines("uncovered", x, x::uncovered);
        edges.onlySetsOfEngines("uncovered of ten", full, full::uncovered);
        edges.onlySetsOfEngines("uncovered of none", new DrillPlanner(), new DrillPlanner()::uncovered);
        // The streets of a set that was asked for before another text was loaded are not those of the new one.
        Bench.type(x, CREW + "street a within 0 rescue;");
        x.loadBrigade();
        edges.same("another brigade", x.uncovered(7), 1);
    }

    private void promise19() {
        DrillPlanner x = edges.planner("node a;node b;road a b 1;station s at a;station t at b;engine e pump at t;engine f pump at t;"
                + "street a within 0;street b within 0;");
        edges.sentence("19", "Returns the streets that would not be covered if given engines were available and no engine moved along the "
                + "ring.");
        edges.same("no move", x.uncoveredWithoutMoves(3), 1);
        edges.same("a move", x.uncovered(3), 0);
        edges.same("nobody", x.uncoveredWithoutMoves(0), 3);
        edges.same("no streets", edges.planner(CREW).uncoveredWithoutMoves(7), 0);
        DrillPlanner full = edges.planner(Full.TEXT);
        edges.same("without the last engine", full.uncoveredWithoutMoves(511), 3072);
        edges.same("with a move to its station", full.uncovered(511), 0);
        edges.sentence("19", "Throws IllegalArgumentException if available has a bit that stands for no engine");
        edges.onlySetsOfEngines("uncoveredWithoutMoves", x, x::uncoveredWithoutMoves);
        edges.onlySetsOfEngines("uncoveredWithoutMoves of ten", full, full::uncoveredWithoutMoves);
    }

    private void promise20() {
        DrillPlanner x = edges.planner(ROADS + "station s at a;station t at b;engine p pump at s;engine q pump at s;engine l ladder at t;"
                + "street c within 0;street a within 0 ladder;street i within 9;street a within 9 rescue;street b within 0 pump;");
        edges.sentence("20", "the smallest travel time, after the moves along the ring, from the station of an available engine of the street's "
                + "kind (of any kind if it names none) to the street's node.");
        edges.same("the nearest of three", x.nearestMinutes(7, 0), 20);
        edges.same("the farther one only", x.nearestMinutes(1, 0), 30);
        edges.same("of the pumps only", x.nearestMinutes(7, 4), 10);
        edges.sentence("20", "Returns the minutes; -1 if no such engine can reach the node.");
        edges.same("of any kind", x.nearestMinutes(7, 0), 20);
        edges.same("later than its number", x.nearestMinutes(3, 0), 20);
        edges.same("of its kind", x.nearestMinutes(7, 1), 10);
        edges.same("after a move", x.nearestMinutes(3, 4), 0);
        edges.same("without a move", x.nearestMinutes(7, 4), 10);
        edges.same("no way", x.nearestMinutes(7, 2), -1);
        edges.same("no engine of the kind", x.nearestMinutes(7, 3), -1);
        edges.same("none available", x.nearestMinutes(0, 0), -1);
        edges.same("none of the kind available", x.nearestMinutes(3, 1), -1);
        DrillPlanner full = edges.planner(Full.TEXT);
        edges.same("the last engine", full.nearestMinutes(512, 0), 57);
        edges.sentence("20", "Throws IndexOutOfBoundsException if street is out of range");
        edges.onlyIndexes("nearestMinutes", 5, street -> x.nearestMinutes(7, street));
        edges.onlyIndexes("nearestMinutes of twelve", 12, street -> full.nearestMinutes(0, street));
        edges.onlyIndexes("nearestMinutes of none", 0, street -> new DrillPlanner().nearestMinutes(0, street));
        edges.sentence("20", "Throws IllegalArgumentException if available has a bit that stands for no engine");
        edges.onlySetsOfEngines("nearestMinutes", x, set -> x.nearestMinutes(set, 4));
        edges.onlySetsOfEngines("nearestMinutes of ten", full, set -> full.nearestMinutes(set, 11));
    }

    private void promise21() {
        DrillPlanner x = edges.planner(ROADS + "station s at a;station t at b;engine p pump at s;engine q pump at s;engine l ladder at t;"
                + "street b within 10;street b within 9;street i within 120;street a within 120 rescue;");
        edges.sentence("21", "Returns the set of engines.");
        edges.same("all", x.coveringEngines(7, 0), 7);
        edges.same("some", x.coveringEngines(7, 1), 4);
        edges.same("after a move", x.coveringEngines(3, 1), 2);
        edges.same("none can", x.coveringEngines(7, 2), 0);
        edges.same("none of its kind", x.coveringEngines(7, 3), 0);
        edges.same("none available", x.coveringEngines(0, 0), 0);
        DrillPlanner full = edges.planner(Full.TEXT);
        edges.same("the last engine", full.coveringEngines(1023, 11), 512);
        edges.sentence("21", "Throws IndexOutOfBoundsException if street is out of range");
        edges.onlyIndexes("coveringEngines", 4, street -> x.coveringEngines(7, street));
        edges.onlyIndexes("coveringEngines of twelve", 12, street -> full.coveringEngines(1023, street));
        edges.sentence("21", "Throws IllegalArgumentException if available has a bit that stands for no engine");
        edges.onlySetsOfEngines("coveringEngines", x, set -> x.coveringEngines(set, 3));
        edges.onlySetsOfEngines("coveringEngines of ten", full, set -> full.coveringEngines(set, 11));
    }

    private void promise22() {
        String town = ROADS + "station s at a;engine p pump at s;";
        edges.sentence("22", "Finds the weakest street: the one with the smallest margin");
        edges.same("margin 0 before margin 1", edges.planner(town + "street b within 11;street c within 30;").weakestStreet(1), 1);
        edges.same("margin below 0", edges.planner(town + "street a within 0;street c within 29;street b within 10;").weakestStreet(1), 1);
        edges.same("the last of twelve", edges.planner(Full.TEXT).weakestStreet(1), 11);
        edges.sentence("22", "A street that no engine can reach has a smaller margin than any other one.");
        edges.same("no way", edges.planner(town + "street c within 0;street i within 120;street c within 0;").weakestStreet(1), 1);
        edges.same("no such kind", edges.planner(town + "street c within 0;street a within 120 ladder;").weakestStreet(1), 1);
        edges.same("both", edges.planner(town + "street c within 0;street a within 0 ladder;street i within 120;").weakestStreet(1), 1);
        edges.same("nobody available", edges.planner(town + "street a within 120;street c within 0;").weakestStreet(0), 0);
        StringBuilder far = new StringBuilder();
        for (char node = 'a'; node <= 'l'; node++) {
            far.append("node ").append(node).append(';').append(node == 'a' ? "" : "road " + node + " " + (char) (node - 1) + " 60;");
        }
        edges.same("660 minutes late", edges.planner(far + "station s at a;engine p pump at s;street l within 0;street a within 120 ladder;")
                .weakestStreet(1), 1);
        edges.sentence("22", "Returns number of the street, the smallest one on a tie; -1 if there are no streets.");
        edges.same("tie", edges.planner(town + "street a within 9;street b within 12;street a within 2;street c within 32;").weakestStreet(1), 1);
        edges.same("tie of unreachable ones", edges.planner(town + "street a within 9;street i within 0;street i within 9;").weakestStreet(1), 1);
        edges.same("no streets", edges.planner(town).weakestStreet(1), -1);
        edges.same("no streets and nobody", new DrillPlanner().weakestStreet(0), -1);
        edges.sentence("22", "Throws IllegalArgumentException if available has a bit that stands for no engine");
        DrillPlanner x = edges.planner(town);
        edges.onlySetsOfEngines("weakestStreet", x, x::weakestStreet);
        DrillPlanner full = edges.planner(Full.TEXT);
        edges.onlySetsOfEngines("weakestStreet of ten", full, full::weakestStreet);
    }

    private void promise23() {
        edges.sentence("23", "Finds the engine without which most streets would not be covered, if all other engines are available.");
        // Without the ladder two streets are open, without the rescue engine one; a pump leaves the other one.
        edges.same("most streets, not the greatest set", edges.planner(CREW + "engine r rescue at s;street a within 0 ladder;"
                + "street a within 0 ladder;street a within 0 pump;street a within 0 rescue;").criticalEngine(), 2);
        edges.same("one at a time", edges.planner(CREW + "street a within 0 pump;street a within 0 pump;street a within 0 ladder;")
                .criticalEngine(), 2);
        // Without e, a move from t leaves both its streets; without the others, nobody moves.
        edges.same("after the moves", edges.planner("node a;node b;station s at a;station t at b;engine e pump at s;engine f ladder at t;"
                + "engine g rescue at t;street b within 0 rescue;street b within 0 rescue;street b within 0 ladder;").criticalEngine(), 0);
        edges.sentence("23", "Returns number of the engine, the smallest one on a tie; -1 if there are no engines.");
        edges.same("the middle one", edges.planner(CREW.replace("engine q pump", "engine q rescue")
                + "street a within 0 rescue;street a within 0 rescue;street a within 0 ladder;street a within 0 pump;").criticalEngine(), 1);
        edges.same("tie", edges.planner(CREW.replace("engine q pump", "engine q rescue")
                + "street a within 0 rescue;street a within 0 ladder;").criticalEngine(), 1);
        edges.same("no streets", edges.planner(CREW).criticalEngine(), 0);
        edges.same("never covered", edges.planner("node a;station s at a;engine p pump at s;street a within 0 ladder;").criticalEngine(), 0);
        edges.same("no engines", edges.planner("node a;station s at a;street a within 9;").criticalEngine(), -1);
        edges.same("nothing", new DrillPlanner().criticalEngine(), -1);
        edges.same("the last of ten", edges.planner(LAST_STREET.replace("#", "rescue")).criticalEngine(), 9);
    }

    private void promise24() {
        edges.sentence("24", "Returns the largest number of engines that can be away at the same time, whichever of them, without an uncovered "
                + "street.");
        edges.same("two of three pumps, but not the ladder", edges.planner(CREW + "engine r pump at s;street a within 0 pump;"
                + "street a within 0 ladder;").safeAbsences(), 0);
        edges.same("two of each kind", edges.planner(CREW + "engine m ladder at s;street a within 0 pump;street a within 0 ladder;")
                .safeAbsences(), 1);
        edges.same("the last of ten counts", edges.planner(tenEngines().replace("engine ej pump", "engine ej rescue")
                + "street a within 0 rescue;").safeAbsences(), 0);
        edges.sentence("24", "Returns the greatest k such that for each set of at most k engines all streets are covered if all other engines "
                + "are available");
        edges.same("none may be away", edges.planner(CREW + "street a within 0 ladder;").safeAbsences(), 0);
        edges.same("one may be away", edges.planner(CREW + "street a within 0 pump;").safeAbsences(), 1);
        edges.same("all but one may be away", edges.planner(CREW + "street a within 0;").safeAbsences(), 2);
        edges.same("all may be away", edges.planner(CREW).safeAbsences(), 3);
        edges.same("all ten may be away", edges.planner(tenEngines()).safeAbsences(), 10);
        edges.same("nine of ten may be away", edges.planner(tenEngines() + "street a within 0;").safeAbsences(), 9);
        edges.same("no engines and no streets", edges.planner("node a;").safeAbsences(), 0);
        // Without g, a move leaves street 0 open; without g and e, nobody moves and it is covered.
        DrillPlanner y = edges.planner("node a;node b;station s at a;station t at b;engine e ladder at s;engine f pump at s;"
                + "engine g ladder at t;street a within 0 pump;");
        edges.same("a set of two is better than one of one", y.uncovered(3) * 10 + y.uncovered(2), 10);
        edges.same("each set of at most k", y.safeAbsences(), 0);
        edges.sentence("24", "-1 if some street is not covered with all engines.");
        edges.same("no such kind", edges.planner(CREW + "street a within 0;street a within 0 rescue;").safeAbsences(), -1);
        edges.same("no engines, a street", edges.planner("node a;street a within 9;").safeAbsences(), -1);
        edges.same("no way", edges.planner(CREW + "node i;street i within 120;").safeAbsences(), -1);
        // Street 0 is covered as soon as e is away, but not with all engines.
        DrillPlanner moved = edges.planner("node a;node b;station s at a;station t at b;engine e ladder at t;engine f pump at s;"
                + "engine g pump at s;street b within 0 pump;");
        edges.same("covered without e", moved.uncovered(6), 0);
        edges.same("uncovered with all", moved.safeAbsences(), -1);
    }

    private static String tenEngines() {
        StringBuilder text = new StringBuilder("node a;station s at a;");
        for (char name = 'a'; name <= 'j'; name++) {
            text.append("engine e").append(name).append(" pump at s;");
        }
        return text.toString();
    }
}
