import java.util.Arrays;

/** A planner for the drills of a fire brigade; what each call does stands in the document's promises. */
public final class DrillPlanner {
    public static final int NO_ERROR = 0;
    public static final int SYNTAX = 1;
    public static final int OUT_OF_RANGE = 2;
    public static final int BAD_NAME = 3;
    public static final int LIMIT_EXCEEDED = 4;
    public static final int EARLY = 1;
    public static final int ORDER = 2;
    public static final int ENGINES = 3;
    public static final int HOSES = 4;
    public static final int COVER = 5;

    private static final int MAX_INPUT = 1000;
    private static final int APPENDED_BYTES = 20;
    private static final int MAX_NODES = 12;
    private static final int MAX_ROADS = 20;
    private static final int MAX_STATIONS = 6;
    private static final int MAX_ENGINES = 10;
    private static final int MAX_STREETS = 12;
    private static final int MAX_DRILLS = 5;
    private static final int MAX_NAMES = MAX_NODES + MAX_STATIONS + MAX_ENGINES + MAX_DRILLS;
    private static final int MAX_LENGTHS = 40;
    private static final int MAX_DRYING = 12;
    private static final int MAX_RACKS = 12;
    private static final int MAX_TRAVEL_SLOTS = 6;
    private static final int KINDS = 3;
    private static final int ANY_KIND = -1;
    private static final int SLOTS = 48;
    private static final int STARTS = 24;
    private static final int NONE = -1;
    private static final int NODE_SORT = 0;
    private static final int STATION_SORT = 1;
    private static final int ENGINE_SORT = 2;
    private static final int DRILL_SORT = 3;
    private static final int SORT_UNIT = 100;
    /** Longer than any way, and so small that the sum of two of them is still an int. */
    private static final int NO_WAY = 1000000;
    private static final int TAKES_PLACE = 1;

    private final byte[] input = new byte[MAX_INPUT];
    private final Tokens tokens = new Tokens();
    private final History history = new History();
    private final BrigadeReader reader;
    private final Cover cover;
    private final Timetable timetable;
    private final Timetable trial;
    private final OrderSearch orderSearch;
    private Brigade brigade = new Brigade();
    /** The brigade that the next load fills, so that a load with an error leaves the loaded one alone. */
    private Brigade draft = new Brigade();
    private int inputLength;
    private int loadError = NO_ERROR;
    private int loadErrorOffset = NONE;

    public DrillPlanner() {
        reader = new BrigadeReader(tokens, draft);
        cover = new Cover(brigade);
        timetable = new Timetable(brigade, cover);
        trial = new Timetable(brigade, cover);
        orderSearch = new OrderSearch(trial);
        serveLoadedBrigade();
    }

    public int appendInput(int a, int b, int c, int d, int e) {
        if (inputLength + APPENDED_BYTES > MAX_INPUT) {
            return -1;
        }
        appendFourBytes(a);
        appendFourBytes(b);
        appendFourBytes(c);
        appendFourBytes(d);
        appendFourBytes(e);
        return inputLength;
    }

    public boolean truncateInput(int length) {
        if (length < 0 || length > inputLength) {
            return false;
        }
        inputLength = length;
        return true;
    }

    public int loadBrigade() {
        tokens.scan(input, inputLength);
        inputLength = 0;
        loadError = NO_ERROR;
        loadErrorOffset = NONE;
        if (!reader.read(draft)) {
            loadError = reader.error;
            loadErrorOffset = tokens.offsetAt(reader.errorToken);
            return -1;
        }
        Brigade replaced = brigade;
        brigade = draft;
        draft = replaced;
        serveLoadedBrigade();
        return brigade.drills.count;
    }

    public int errorCode() {
        return loadError;
    }

    public int errorOffset() {
        return loadErrorOffset;
    }

    public int nodes() {
        return brigade.nodeCount;
    }

    public int stations() {
        return brigade.stationCount;
    }

    public int engines() {
        return brigade.engineCount;
    }

    public int streets() {
        return brigade.streets.count;
    }

    public int drills() {
        return brigade.drills.count;
    }

    public int find() {
        tokens.scan(input, inputLength);
        inputLength = 0;
        if (tokens.sortAt(0) != Token.NAME || tokens.sortAt(1) != Token.END) {
            return -1;
        }
        return brigade.objectNamed(tokens.valueAt(0));
    }

    public int travelMinutes(int from, int to) throws IndexOutOfBoundsException {
        checkIndex(from, brigade.nodeCount);
        checkIndex(to, brigade.nodeCount);
        return minusOneIfNoWay(brigade.minutesBetween(from, to));
    }

    public int travelSlots(int engine, int drill) throws IndexOutOfBoundsException {
        checkIndex(engine, brigade.engineCount);
        checkIndex(drill, brigade.drills.count);
        return minusOneIfNoWay(cell(brigade.drills.travel, drill * MAX_ENGINES + engine));
    }

    public int homeStation(int engine) throws IndexOutOfBoundsException {
        checkIndex(engine, brigade.engineCount);
        return brigade.homeOf(engine);
    }

    public int engineKind(int engine) throws IndexOutOfBoundsException {
        checkIndex(engine, brigade.engineCount);
        return brigade.kindOf(engine);
    }

    public int coverStation(int available, int engine) throws IndexOutOfBoundsException, IllegalArgumentException {
        checkIndex(engine, brigade.engineCount);
        checkEngineSet(available);
        cover.moveUp(available);
        return cover.postOf(engine);
    }

    public int uncovered(int available) throws IllegalArgumentException {
        checkEngineSet(available);
        return cover.openStreets(available);
    }

    public int uncoveredWithoutMoves(int available) throws IllegalArgumentException {
        checkEngineSet(available);
        cover.standAtHome(available);
        return cover.openStreetsNow();
    }

    public int nearestMinutes(int available, int street) throws IndexOutOfBoundsException, IllegalArgumentException {
        checkIndex(street, brigade.streets.count);
        checkEngineSet(available);
        cover.moveUp(available);
        return minusOneIfNoWay(cover.minutesTo(street));
    }

    public int coveringEngines(int available, int street) throws IndexOutOfBoundsException, IllegalArgumentException {
        checkIndex(street, brigade.streets.count);
        checkEngineSet(available);
        cover.moveUp(available);
        return cover.enginesCovering(street);
    }

    public int weakestStreet(int available) throws IllegalArgumentException {
        checkEngineSet(available);
        cover.moveUp(available);
        int weakest = NONE;
        int smallestMargin = 0;
        for (int street = 0; street < brigade.streets.count; street++) {
            int minutes = cover.minutesTo(street);
            int margin = minutes >= NO_WAY ? -NO_WAY : brigade.streets.limitOf(street) - minutes;
            if (weakest == NONE || margin < smallestMargin) {
                weakest = street;
                smallestMargin = margin;
            }
        }
        return weakest;
    }

    public int criticalEngine() {
        int critical = NONE;
        int mostOpen = NONE;
        for (int engine = 0; engine < brigade.engineCount; engine++) {
            int open = Integer.bitCount(cover.openStreets(brigade.allEngines() & ~(1 << engine)));
            if (open > mostOpen) {
                critical = engine;
                mostOpen = open;
            }
        }
        return critical;
    }

    public int safeAbsences() {
        int all = brigade.allEngines();
        int fewestHarmful = brigade.engineCount + 1;
        for (int absent = 0; absent <= all; absent++) {
            int size = Integer.bitCount(absent);
            if (size < fewestHarmful && cover.openStreets(all & ~absent) != 0) {
                fewestHarmful = size;
            }
        }
        return fewestHarmful - 1;
    }

    public int setStart(int drill, int slot) throws IndexOutOfBoundsException, IllegalArgumentException {
        checkIndex(drill, brigade.drills.count);
        checkRange(slot, NONE, STARTS - 1);
        history.remember(timetable.starts);
        int previous = timetable.startOf(drill);
        timetable.putStart(drill, slot);
        timetable.review();
        return previous;
    }

    public int start(int drill) throws IndexOutOfBoundsException {
        checkIndex(drill, brigade.drills.count);
        return timetable.startOf(drill);
    }

    public int clearStarts() {
        history.remember(timetable.starts);
        int cleared = 0;
        for (int drill = 0; drill < brigade.drills.count; drill++) {
            if (timetable.startOf(drill) != NONE) {
                cleared++;
            }
        }
        timetable.dropStarts();
        timetable.review();
        return cleared;
    }

    public int undo() {
        if (history.kept == 0) {
            return -1;
        }
        history.restore(timetable.starts);
        timetable.review();
        return history.kept;
    }

    public int drillState(int drill) throws IndexOutOfBoundsException {
        checkIndex(drill, brigade.drills.count);
        return cell(timetable.state, drill);
    }

    public int drillEngines(int drill) throws IndexOutOfBoundsException {
        checkIndex(drill, brigade.drills.count);
        return cell(timetable.taken, drill);
    }

    public int drillBegin(int drill) throws IndexOutOfBoundsException {
        checkIndex(drill, brigade.drills.count);
        return cell(timetable.begin, drill);
    }

    public int drillEnd(int drill) throws IndexOutOfBoundsException {
        checkIndex(drill, brigade.drills.count);
        return cell(timetable.end, drill);
    }

    public int drillBack(int drill) throws IndexOutOfBoundsException {
        checkIndex(drill, brigade.drills.count);
        return cell(timetable.back, drill);
    }

    public int violations() {
        return timetable.violationCount;
    }

    public int violationCode(int index) throws IndexOutOfBoundsException {
        checkIndex(index, timetable.violationCount);
        return timetable.codeOfViolation(index);
    }

    public int violationSlot(int index) throws IndexOutOfBoundsException {
        checkIndex(index, timetable.violationCount);
        return timetable.slotOfViolation(index);
    }

    public int violationSubject(int index) throws IndexOutOfBoundsException {
        checkIndex(index, timetable.violationCount);
        return timetable.subjectOfViolation(index);
    }

    public int availableAt(int slot) throws IndexOutOfBoundsException {
        checkIndex(slot, SLOTS);
        return cell(timetable.available, slot);
    }

    public int uncoveredAt(int slot) throws IndexOutOfBoundsException {
        checkIndex(slot, SLOTS);
        return cover.openStreets(cell(timetable.available, slot));
    }

    public int dryHoses(int slot) throws IndexOutOfBoundsException {
        checkIndex(slot, SLOTS);
        return cell(timetable.hoses.dry, slot);
    }

    public int wetHoses(int slot) throws IndexOutOfBoundsException {
        checkIndex(slot, SLOTS);
        return cell(timetable.hoses.wet, slot);
    }

    public int dryingHoses(int slot) throws IndexOutOfBoundsException {
        checkIndex(slot, SLOTS);
        return cell(timetable.hoses.drying, slot);
    }

    public int awaySlots(int engine) throws IndexOutOfBoundsException {
        checkIndex(engine, brigade.engineCount);
        int away = 0;
        for (int slot = 0; slot < SLOTS; slot++) {
            if ((cell(timetable.available, slot) >> engine & 1) == 0) {
                away++;
            }
        }
        return away;
    }

    public int busiestSlot() {
        int busiest = 0;
        int fewestAvailable = MAX_ENGINES + 1;
        for (int slot = 0; slot < SLOTS; slot++) {
            int size = Integer.bitCount(cell(timetable.available, slot));
            if (size < fewestAvailable) {
                busiest = slot;
                fewestAvailable = size;
            }
        }
        return busiest;
    }

    public int finish() {
        return timetable.greatestEnd();
    }

    public int earliestStart(int drill) throws IndexOutOfBoundsException {
        checkIndex(drill, brigade.drills.count);
        trial.equipAs(brigade);
        trial.copyStarts(timetable);
        return trial.placeFrom(drill, 0);
    }

    public int compact() {
        if (timetable.violationCount > 0) {
            return -1;
        }
        history.remember(timetable.starts);
        trial.equipAs(brigade);
        trial.copyStarts(timetable);
        int changes = 0;
        // Each pass but the last one makes a start smaller, so there are never more passes than this.
        for (int pass = 0; pass <= MAX_DRILLS * STARTS; pass++) {
            int changed = compactOnce();
            if (changed == 0) {
                break;
            }
            changes += changed;
        }
        timetable.copyStarts(trial);
        timetable.review();
        return changes;
    }

    public int schedule(int order) throws IllegalArgumentException {
        checkOrder(order);
        trial.equipAs(brigade);
        if (!orderSearch.listSchedule(order)) {
            return -1;
        }
        history.remember(timetable.starts);
        timetable.copyStarts(trial);
        timetable.review();
        return timetable.greatestEnd();
    }

    public int bestFinish() {
        return orderSearch.run(brigade.allEngines(), brigade.hoseLengths, brigade.rackPlaces);
    }

    public int bestOrder() {
        orderSearch.run(brigade.allEngines(), brigade.hoseLengths, brigade.rackPlaces);
        return orderSearch.bestDigits;
    }

    public int bestFinishWithout(int engine) throws IndexOutOfBoundsException {
        checkIndex(engine, brigade.engineCount);
        return orderSearch.run(brigade.allEngines() & ~(1 << engine), brigade.hoseLengths, brigade.rackPlaces);
    }

    public int bestFinishWith(int lengths, int racks) throws IllegalArgumentException {
        checkRange(lengths, 0, MAX_LENGTHS);
        checkRange(racks, 1, MAX_RACKS);
        return orderSearch.run(brigade.allEngines(), lengths, racks);
    }

    public int enoughRacks() {
        int wanted = orderSearch.run(brigade.allEngines(), brigade.hoseLengths, MAX_RACKS);
        if (wanted == NONE) {
            return -1;
        }
        // Fewer places can be better by chance, so every number is tried, from the smallest one on.
        for (int racks = 1; racks < MAX_RACKS; racks++) {
            if (orderSearch.run(brigade.allEngines(), brigade.hoseLengths, racks) == wanted) {
                return racks;
            }
        }
        return MAX_RACKS;
    }

    private void appendFourBytes(int bytes) {
        for (int shift = 24; shift >= 0; shift -= 8) {
            if (inputLength >= 0 && inputLength < input.length) {
                input[inputLength] = (byte) (bytes >> shift);
                inputLength++;
            }
        }
    }

    private void serveLoadedBrigade() {
        cover.serve(brigade);
        trial.serve(brigade);
        timetable.serve(brigade);
        timetable.review();
        history.kept = 0;
    }

    private int compactOnce() {
        int changed = 0;
        for (int drill = 0; drill < brigade.drills.count; drill++) {
            int before = trial.startOf(drill);
            if (before != NONE && trial.placeFrom(drill, 0) != before) {
                changed++;
            }
        }
        return changed;
    }

    private void checkOrder(int order) {
        if (order < 0) {
            throw new IllegalArgumentException("order is negative");
        }
        int seen = 0;
        for (int rest = order; rest > 0; rest /= 10) {
            int drill = rest % 10 - 1;
            if (drill < 0 || drill >= brigade.drills.count) {
                throw new IllegalArgumentException("a digit of order stands for no drill");
            }
            if ((seen >> drill & 1) != 0) {
                throw new IllegalArgumentException("a drill occurs twice in order");
            }
            seen |= 1 << drill;
        }
    }

    private void checkEngineSet(int set) {
        if ((set & ~brigade.allEngines()) != 0) {
            throw new IllegalArgumentException("a bit stands for no engine");
        }
    }

    private static void checkRange(int value, int low, int high) {
        if (value < low || value > high) {
            throw new IllegalArgumentException("a number is out of range");
        }
    }

    private static void checkIndex(int index, int count) {
        if (index < 0 || index >= count) {
            throw new IndexOutOfBoundsException("an index is out of range");
        }
    }

    private static int minusOneIfNoWay(int travel) {
        return travel >= NO_WAY ? -1 : travel;
    }

    /** Reads a row so that the machine never meets a wrong index; outside the row there are zeros. */
    private static int cell(int[] row, int index) {
        return index >= 0 && index < row.length ? row[index] : 0;
    }

    /** Writes to a row so that the machine never meets a wrong index; outside the row nothing is kept. */
    private static void put(int[] row, int index, int value) {
        if (index >= 0 && index < row.length) {
            row[index] = value;
        }
    }

    /** The sorts of tokens; a word that opens a statement has the greatest number of its statements. */
    private enum Token {
        SLOT("slot", 1), NODE("node", MAX_NODES), ROAD("road", MAX_ROADS), STATION("station", MAX_STATIONS),
        ENGINE("engine", MAX_ENGINES), STREET("street", MAX_STREETS), HOSES_WORD("hoses", 1),
        DRILL("drill", MAX_DRILLS), AT("at", 0), WITHIN("within", 0), DRY("dry", 0), RACKS("racks", 0),
        LASTS("lasts", 0), NEEDS("needs", 0), HOSE("hose", 0), AFTER("after", 0), FROM("from", 0),
        PUMP("pump", 0), LADDER("ladder", 0), RESCUE("rescue", 0),
        NAME("", 0), NUMBER("", 0), SEMICOLON("", 0), COMMA("", 0), BAD("", 0), END("", 0);

        final String text;
        final int limit;

        Token(String text, int limit) {
            this.text = text;
            this.limit = limit;
        }
    }

    /** The tokens of a text, up to its end or its first token that can stand nowhere. */
    private static final class Tokens {
        private static final Token[] ALL_SORTS = Token.values();
        private static final int MAX_TOKENS = MAX_INPUT + 1;
        private static final int MAX_NAME = 6;
        private static final int MAX_DIGITS = 4;

        private final Token[] sorts = new Token[MAX_TOKENS];
        private final int[] offsets = new int[MAX_TOKENS];
        private final int[] values = new int[MAX_TOKENS];
        private int count;

        void scan(byte[] text, int length) {
            count = 0;
            for (int at = 0; at < length && at < text.length; at++) {
                if (text[at] == ' ' || text[at] == '\n') {
                    continue;
                }
                int stop = at + 1;
                while (stop < length && stop < text.length && isSameRun(text[at], text[stop])) {
                    stop++;
                }
                Token sort = sortOf(text, at, stop);
                add(sort, at, valueOf(text, at, stop));
                if (sort == Token.BAD) {
                    return;
                }
                at = stop - 1;
            }
            add(Token.END, length, 0);
        }

        Token sortAt(int index) {
            if (index < 0 || index >= count || index >= sorts.length || sorts[index] == null) {
                return Token.BAD;
            }
            return sorts[index];
        }

        int offsetAt(int index) {
            return cell(offsets, index);
        }

        /** The number, or a number for the word: two names have the same one only if they are equal. */
        int valueAt(int index) {
            return cell(values, index);
        }

        private void add(Token sort, int offset, int value) {
            if (count >= 0 && count < MAX_TOKENS) {
                sorts[count] = sort;
                offsets[count] = offset;
                values[count] = value;
                count++;
            }
        }

        private static boolean isLetter(byte sign) {
            return sign >= 'a' && sign <= 'z';
        }

        private static boolean isDigit(byte sign) {
            return sign >= '0' && sign <= '9';
        }

        private static boolean isSameRun(byte first, byte next) {
            return isLetter(first) && isLetter(next) || isDigit(first) && isDigit(next);
        }

        private static Token sortOf(byte[] text, int from, int stop) {
            if (from < 0 || from >= text.length) {
                return Token.BAD;
            }
            byte first = text[from];
            if (isLetter(first)) {
                return sortOfWord(text, from, stop);
            }
            if (isDigit(first)) {
                return stop - from <= MAX_DIGITS ? Token.NUMBER : Token.BAD;
            }
            if (first == ';') {
                return Token.SEMICOLON;
            }
            return first == ',' ? Token.COMMA : Token.BAD;
        }

        private static Token sortOfWord(byte[] text, int from, int stop) {
            for (int i = 0; i < ALL_SORTS.length; i++) {
                if (isSpelled(ALL_SORTS[i].text, text, from, stop)) {
                    return ALL_SORTS[i];
                }
            }
            return stop - from <= MAX_NAME ? Token.NAME : Token.BAD;
        }

        private static boolean isSpelled(String word, byte[] text, int from, int stop) {
            if (word.length() != stop - from || from < 0 || stop > text.length) {
                return false;
            }
            for (int i = 0; i < word.length(); i++) {
                if (word.charAt(i) != text[from + i]) {
                    return false;
                }
            }
            return true;
        }

        private static int valueOf(byte[] text, int from, int stop) {
            int value = 0;
            // Words and numbers that are longer than a name have no value: they stand nowhere or are reserved.
            for (int i = Math.max(from, 0); i < stop && i < text.length && i < from + MAX_NAME; i++) {
                value = isDigit(text[i]) ? value * 10 + text[i] - '0' : value * 27 + text[i] - 'a' + 1;
            }
            return value;
        }
    }

    /** Reads the statements of a brigade text; each read or take answers false at the first error met. */
    private static final class BrigadeReader {
        int error;
        int errorToken;
        private final Tokens tokens;
        private Brigade draft;
        private int position;
        private boolean slotGiven;
        private boolean hosesGiven;
        private int number;
        private int name;
        private int object;
        private int kind;

        BrigadeReader(Tokens tokens, Brigade draft) {
            this.tokens = tokens;
            this.draft = draft;
        }

        boolean read(Brigade into) {
            draft = into;
            draft.clear();
            position = 0;
            slotGiven = false;
            hosesGiven = false;
            for (int statement = 0; statement < MAX_INPUT; statement++) {
                Token word = tokens.sortAt(position);
                if (word == Token.END) {
                    draft.complete();
                    return true;
                }
                if (!takeFirstWord(word) || !readBody(word) || !take(Token.SEMICOLON)) {
                    return false;
                }
            }
            return fail(SYNTAX, position);
        }

        private boolean takeFirstWord(Token word) {
            if (word.limit == 0) {
                return fail(SYNTAX, position);
            }
            if (statementsOf(word) >= word.limit) {
                return fail(LIMIT_EXCEEDED, position);
            }
            position++;
            return true;
        }

        private int statementsOf(Token word) {
            if (word == Token.NODE) {
                return draft.nodeCount;
            }
            if (word == Token.ROAD) {
                return draft.roadCount;
            }
            if (word == Token.STATION) {
                return draft.stationCount;
            }
            if (word == Token.ENGINE) {
                return draft.engineCount;
            }
            if (word == Token.STREET) {
                return draft.streets.count;
            }
            if (word == Token.DRILL) {
                return draft.drills.count;
            }
            return (word == Token.SLOT ? slotGiven : hosesGiven) ? 1 : 0;
        }

        private boolean readBody(Token word) {
            if (word == Token.SLOT) {
                return readSlot();
            }
            if (word == Token.NODE) {
                return readNode();
            }
            if (word == Token.ROAD) {
                return readRoad();
            }
            if (word == Token.STATION) {
                return readStation();
            }
            if (word == Token.ENGINE) {
                return readEngine();
            }
            if (word == Token.STREET) {
                return readStreet();
            }
            return word == Token.DRILL ? readDrill() : readHoses();
        }

        private boolean readSlot() {
            if (!takeNumber(10, 60)) {
                return false;
            }
            draft.slotMinutes = number;
            slotGiven = true;
            return true;
        }

        private boolean readNode() {
            if (!takeNewName()) {
                return false;
            }
            draft.addNode(name);
            return true;
        }

        private boolean readRoad() {
            if (!takeObject(NODE_SORT)) {
                return false;
            }
            int from = object;
            if (!takeObject(NODE_SORT)) {
                return false;
            }
            if (object == from) {
                return fail(BAD_NAME, position - 1);
            }
            if (!takeNumber(1, 60)) {
                return false;
            }
            draft.addRoad(from, object, number);
            return true;
        }

        private boolean readStation() {
            if (!takeNewName() || !take(Token.AT) || !takeObject(NODE_SORT)) {
                return false;
            }
            draft.addStation(name, object);
            return true;
        }

        private boolean readEngine() {
            if (!takeNewName() || !takeKind() || !take(Token.AT) || !takeObject(STATION_SORT)) {
                return false;
            }
            draft.addEngine(name, kind, object);
            return true;
        }

        private boolean readStreet() {
            if (!takeObject(NODE_SORT) || !take(Token.WITHIN) || !takeNumber(0, 120)) {
                return false;
            }
            int wanted = kindOfWord(tokens.sortAt(position));
            if (wanted != ANY_KIND) {
                position++;
            }
            draft.streets.add(object, number, wanted);
            return true;
        }

        private boolean readHoses() {
            if (!takeNumber(0, MAX_LENGTHS)) {
                return false;
            }
            draft.hoseLengths = number;
            if (!take(Token.DRY) || !takeNumber(1, MAX_DRYING)) {
                return false;
            }
            draft.dryingSlots = number;
            if (!take(Token.RACKS) || !takeNumber(1, MAX_RACKS)) {
                return false;
            }
            draft.rackPlaces = number;
            hosesGiven = true;
            return true;
        }

        private boolean readDrill() {
            if (!takeNewName() || !take(Token.AT) || !takeObject(NODE_SORT)) {
                return false;
            }
            if (!take(Token.LASTS) || !takeNumber(1, 8)) {
                return false;
            }
            int given = name;
            draft.drills.open(object, number);
            if (!readNeeds() || !readDrillHoses() || !readAfter() || !readFrom()) {
                return false;
            }
            draft.addDrill(given);
            return true;
        }

        private boolean readNeeds() {
            if (!take(Token.NEEDS)) {
                return false;
            }
            for (int part = 0; part <= KINDS; part++) {
                if (!takeNumber(1, 4) || !takeKind()) {
                    return false;
                }
                if (!draft.drills.addNeed(kind, number)) {
                    return fail(BAD_NAME, position - 1);
                }
                if (!takeIfThere(Token.COMMA)) {
                    return true;
                }
            }
            return fail(SYNTAX, position);
        }

        private boolean readDrillHoses() {
            if (!takeIfThere(Token.HOSE)) {
                return true;
            }
            if (!takeNumber(0, MAX_LENGTHS)) {
                return false;
            }
            draft.drills.setHoses(number);
            return true;
        }

        private boolean readAfter() {
            if (!takeIfThere(Token.AFTER)) {
                return true;
            }
            for (int part = 0; part <= MAX_DRILLS; part++) {
                if (!takeObject(DRILL_SORT)) {
                    return false;
                }
                if (!draft.drills.addAfter(object)) {
                    return fail(BAD_NAME, position - 1);
                }
                if (!takeIfThere(Token.COMMA)) {
                    return true;
                }
            }
            return fail(SYNTAX, position);
        }

        private boolean readFrom() {
            if (!takeIfThere(Token.FROM)) {
                return true;
            }
            if (!takeNumber(0, STARTS - 1)) {
                return false;
            }
            draft.drills.setFirstSlot(number);
            return true;
        }

        private boolean take(Token wanted) {
            if (tokens.sortAt(position) != wanted) {
                return fail(SYNTAX, position);
            }
            position++;
            return true;
        }

        private boolean takeIfThere(Token wanted) {
            if (tokens.sortAt(position) != wanted) {
                return false;
            }
            position++;
            return true;
        }

        private boolean takeNumber(int low, int high) {
            if (!take(Token.NUMBER)) {
                return false;
            }
            number = tokens.valueAt(position - 1);
            return number >= low && number <= high || fail(OUT_OF_RANGE, position - 1);
        }

        private boolean takeNewName() {
            if (!take(Token.NAME)) {
                return false;
            }
            name = tokens.valueAt(position - 1);
            return draft.objectNamed(name) == NONE || fail(BAD_NAME, position - 1);
        }

        private boolean takeObject(int sort) {
            if (!take(Token.NAME)) {
                return false;
            }
            int found = draft.objectNamed(tokens.valueAt(position - 1));
            if (found == NONE || found / SORT_UNIT != sort) {
                return fail(BAD_NAME, position - 1);
            }
            object = found % SORT_UNIT;
            return true;
        }

        private boolean takeKind() {
            kind = kindOfWord(tokens.sortAt(position));
            if (kind == ANY_KIND) {
                return fail(SYNTAX, position);
            }
            position++;
            return true;
        }

        private static int kindOfWord(Token word) {
            if (word == Token.PUMP) {
                return 0;
            }
            if (word == Token.LADDER) {
                return 1;
            }
            return word == Token.RESCUE ? 2 : ANY_KIND;
        }

        private boolean fail(int code, int token) {
            error = code;
            errorToken = token;
            return false;
        }
    }

    /** What a brigade text defines. */
    private static final class Brigade {
        final Streets streets = new Streets();
        final Drills drills = new Drills();
        int nodeCount;
        int roadCount;
        int stationCount;
        int engineCount;
        int slotMinutes;
        int hoseLengths;
        int dryingSlots;
        int rackPlaces;
        private int nameCount;
        private final int[] names = new int[MAX_NAMES];
        private final int[] namedObjects = new int[MAX_NAMES];
        private final int[] minutes = new int[MAX_NODES * MAX_NODES];
        private final int[] stationNode = new int[MAX_STATIONS];
        private final int[] engineKinds = new int[MAX_ENGINES];
        private final int[] engineHomes = new int[MAX_ENGINES];

        Brigade() {
            clear();
        }

        void clear() {
            streets.count = 0;
            drills.count = 0;
            nodeCount = 0;
            roadCount = 0;
            stationCount = 0;
            engineCount = 0;
            nameCount = 0;
            slotMinutes = 30;
            hoseLengths = 0;
            dryingSlots = 1;
            rackPlaces = 1;
            Arrays.fill(minutes, NO_WAY);
            for (int node = 0; node < MAX_NODES; node++) {
                put(minutes, node * MAX_NODES + node, 0);
            }
        }

        /** Answers 100 * sort + number of the object with this name, NONE without one. */
        int objectNamed(int name) {
            for (int i = 0; i < nameCount && i < MAX_NAMES; i++) {
                if (names[i] == name) {
                    return namedObjects[i];
                }
            }
            return NONE;
        }

        void addNode(int name) {
            addName(name, NODE_SORT, nodeCount);
            nodeCount++;
        }

        void addRoad(int from, int to, int length) {
            roadCount++;
            if (length < minutesBetween(from, to)) {
                putWay(from, to, length);
                putWay(to, from, length);
            }
        }

        void addStation(int name, int node) {
            addName(name, STATION_SORT, stationCount);
            put(stationNode, stationCount, node);
            stationCount++;
        }

        void addEngine(int name, int kind, int home) {
            addName(name, ENGINE_SORT, engineCount);
            put(engineKinds, engineCount, kind);
            put(engineHomes, engineCount, home);
            engineCount++;
        }

        void addDrill(int name) {
            addName(name, DRILL_SORT, drills.count);
            drills.count++;
        }

        /** Finds what follows from the statements, once all of them are read. */
        void complete() {
            for (int over = 0; over < nodeCount; over++) {
                shortenWaysOver(over);
            }
            for (int drill = 0; drill < drills.count; drill++) {
                drills.planCalls(drill, this);
            }
        }

        int minutesBetween(int from, int to) {
            if (from < 0 || from >= MAX_NODES || to < 0 || to >= MAX_NODES) {
                return NO_WAY;
            }
            return minutes[from * MAX_NODES + to];
        }

        int minutesFromStation(int station, int node) {
            if (station < 0 || station >= stationCount || station >= MAX_STATIONS) {
                return NO_WAY;
            }
            return minutesBetween(stationNode[station], node);
        }

        int homeOf(int engine) {
            return cell(engineHomes, engine);
        }

        int kindOf(int engine) {
            return cell(engineKinds, engine);
        }

        int allEngines() {
            return (1 << engineCount) - 1;
        }

        /** Travel minutes in slots, rounded up. */
        int slotsFor(int travel) {
            if (travel >= NO_WAY || slotMinutes <= 0) {
                return NO_WAY;
            }
            return (travel + slotMinutes - 1) / slotMinutes;
        }

        private void addName(int name, int sort, int number) {
            put(names, nameCount, name);
            put(namedObjects, nameCount, SORT_UNIT * sort + number);
            nameCount++;
        }

        private void putWay(int from, int to, int length) {
            if (from >= 0 && from < MAX_NODES && to >= 0 && to < MAX_NODES) {
                minutes[from * MAX_NODES + to] = length;
            }
        }

        private void shortenWaysOver(int over) {
            for (int from = 0; from < nodeCount; from++) {
                int first = minutesBetween(from, over);
                for (int to = 0; to < nodeCount; to++) {
                    int length = first + minutesBetween(over, to);
                    if (length < minutesBetween(from, to)) {
                        putWay(from, to, length);
                    }
                }
            }
        }
    }

    /** The streets of a brigade. */
    private static final class Streets {
        int count;
        private final int[] node = new int[MAX_STREETS];
        private final int[] limit = new int[MAX_STREETS];
        private final int[] kind = new int[MAX_STREETS];

        void add(int place, int minutes, int wanted) {
            put(node, count, place);
            put(limit, count, minutes);
            put(kind, count, wanted);
            count++;
        }

        int nodeOf(int street) {
            return cell(node, street);
        }

        int limitOf(int street) {
            return cell(limit, street);
        }

        boolean admits(int street, int engineKind) {
            int wanted = cell(kind, street);
            return wanted == ANY_KIND || wanted == engineKind;
        }
    }

    /** The drills of a brigade. While a drill is read, it stands in the row behind the last one. */
    private static final class Drills {
        int count;
        private final int[] node = new int[MAX_DRILLS];
        private final int[] lasts = new int[MAX_DRILLS];
        private final int[] hoses = new int[MAX_DRILLS];
        private final int[] after = new int[MAX_DRILLS];
        private final int[] firstSlot = new int[MAX_DRILLS];
        private final int[] needs = new int[MAX_DRILLS * KINDS];
        private final int[] travel = new int[MAX_DRILLS * MAX_ENGINES];
        /** The engines that are near enough for a drill, the one with the smallest travel time first. */
        private final int[] calls = new int[MAX_DRILLS * MAX_ENGINES];
        private final int[] callCount = new int[MAX_DRILLS];

        void open(int place, int slots) {
            put(node, count, place);
            put(lasts, count, slots);
            put(hoses, count, 0);
            put(after, count, 0);
            put(firstSlot, count, 0);
            for (int kind = 0; kind < KINDS; kind++) {
                put(needs, count * KINDS + kind, 0);
            }
        }

        /** Answers false if the drill lists the kind already. */
        boolean addNeed(int kind, int number) {
            if (cell(needs, count * KINDS + kind) > 0) {
                return false;
            }
            put(needs, count * KINDS + kind, number);
            return true;
        }

        /** Answers false if the drill lists the other one already. */
        boolean addAfter(int other) {
            int others = cell(after, count);
            if ((others >> other & 1) != 0) {
                return false;
            }
            put(after, count, others | 1 << other);
            return true;
        }

        void setHoses(int number) {
            put(hoses, count, number);
        }

        void setFirstSlot(int slot) {
            put(firstSlot, count, slot);
        }

        void planCalls(int drill, Brigade brigade) {
            int place = cell(node, drill);
            int near = 0;
            for (int engine = 0; engine < brigade.engineCount; engine++) {
                int minutes = brigade.minutesFromStation(brigade.homeOf(engine), place);
                int slots = brigade.slotsFor(minutes);
                put(travel, drill * MAX_ENGINES + engine, slots);
                if (slots <= MAX_TRAVEL_SLOTS) {
                    int rank = rankAmong(drill, near, minutes, brigade);
                    insertCall(drill * MAX_ENGINES + rank, drill * MAX_ENGINES + near, engine);
                    near++;
                }
            }
            put(callCount, drill, near);
        }

        /** The engines come in ascending order, so one with the same travel time stays behind. */
        private int rankAmong(int drill, int near, int minutes, Brigade brigade) {
            int place = cell(node, drill);
            int rank = 0;
            for (int i = 0; i < near; i++) {
                int called = cell(calls, drill * MAX_ENGINES + i);
                if (brigade.minutesFromStation(brigade.homeOf(called), place) <= minutes) {
                    rank++;
                }
            }
            return rank;
        }

        private void insertCall(int index, int behindLast, int engine) {
            for (int i = behindLast; i > index; i--) {
                put(calls, i, cell(calls, i - 1));
            }
            put(calls, index, engine);
        }
    }

    /** Where the available engines stand, and which streets that leaves open. */
    private static final class Cover {
        private static final int UNKNOWN = -1;

        private Brigade brigade;
        /** The open streets for each set of engines that was asked for: the search for orders asks often. */
        private final int[] known = new int[1 << MAX_ENGINES];
        /** The streets that an engine of a kind covers from a station. */
        private final int[] covered = new int[MAX_STATIONS * KINDS];
        private final int[] post = new int[MAX_ENGINES];
        private final int[] crew = new int[MAX_STATIONS];

        Cover(Brigade brigade) {
            this.brigade = brigade;
        }

        void serve(Brigade loaded) {
            brigade = loaded;
            Arrays.fill(known, UNKNOWN);
            for (int station = 0; station < loaded.stationCount; station++) {
                for (int kind = 0; kind < KINDS; kind++) {
                    put(covered, station * KINDS + kind, streetsCoveredFrom(station, kind));
                }
            }
        }

        int openStreets(int available) {
            if (available < 0 || available >= known.length) {
                return 0;
            }
            if (known[available] == UNKNOWN) {
                moveUp(available);
                known[available] = openStreetsNow();
            }
            return known[available];
        }

        void standAtHome(int available) {
            Arrays.fill(crew, 0);
            for (int engine = 0; engine < MAX_ENGINES; engine++) {
                int home = brigade.engineHomes[engine];
                post[engine] = NONE;
                if ((available >> engine & 1) != 0 && home >= 0 && home < MAX_STATIONS) {
                    post[engine] = home;
                    crew[home]++;
                }
            }
        }

        void moveUp(int available) {
            standAtHome(available);
            for (int station = 0; station < brigade.stationCount && station < MAX_STATIONS; station++) {
                int donor = crew[station] == 0 ? donorFor(station) : NONE;
                if (donor >= 0 && donor < MAX_STATIONS) {
                    sendLastEngine(donor, station);
                    crew[donor]--;
                    crew[station]++;
                }
            }
        }

        int postOf(int engine) {
            return cell(post, engine);
        }

        int openStreetsNow() {
            int closed = 0;
            for (int engine = 0; engine < MAX_ENGINES; engine++) {
                closed |= streetsCoveredBy(engine);
            }
            return (1 << brigade.streets.count) - 1 & ~closed;
        }

        int enginesCovering(int street) {
            int covering = 0;
            for (int engine = 0; engine < MAX_ENGINES; engine++) {
                if ((streetsCoveredBy(engine) >> street & 1) != 0) {
                    covering |= 1 << engine;
                }
            }
            return covering;
        }

        int minutesTo(int street) {
            int node = brigade.streets.nodeOf(street);
            int nearest = NO_WAY;
            for (int engine = 0; engine < MAX_ENGINES; engine++) {
                if (post[engine] != NONE && brigade.streets.admits(street, brigade.engineKinds[engine])) {
                    nearest = Math.min(nearest, brigade.minutesFromStation(post[engine], node));
                }
            }
            return nearest;
        }

        private int streetsCoveredFrom(int station, int kind) {
            int streets = 0;
            for (int street = 0; street < brigade.streets.count; street++) {
                int minutes = brigade.minutesFromStation(station, brigade.streets.nodeOf(street));
                if (brigade.streets.admits(street, kind) && minutes <= brigade.streets.limitOf(street)) {
                    streets |= 1 << street;
                }
            }
            return streets;
        }

        private int streetsCoveredBy(int engine) {
            if (engine < 0 || engine >= MAX_ENGINES || post[engine] == NONE) {
                return 0;
            }
            int row = post[engine] * KINDS + brigade.engineKinds[engine];
            return row >= 0 && row < covered.length ? covered[row] : 0;
        }

        private int donorFor(int station) {
            int count = brigade.stationCount;
            for (int step = 1; step < count; step++) {
                int other = station + step < count ? station + step : station + step - count;
                if (other >= 0 && other < MAX_STATIONS && crew[other] >= 2) {
                    return other;
                }
            }
            return NONE;
        }

        private void sendLastEngine(int from, int to) {
            for (int engine = MAX_ENGINES - 1; engine >= 0; engine--) {
                if (post[engine] == from) {
                    post[engine] = to;
                    return;
                }
            }
        }
    }

    /** The hose lengths, slot by slot. */
    private static final class HosePool {
        final int[] dry = new int[SLOTS];
        final int[] wet = new int[SLOTS];
        final int[] drying = new int[SLOTS];
        int dryNow;
        private int wetNow;
        private int dryingNow;
        private int rackPlaces;
        private int dryingSlots;
        private final int[] becomeDry = new int[SLOTS];
        private final int[] becomeWet = new int[SLOTS];

        void refill(int lengths, int racks, int slotsToDry) {
            dryNow = lengths;
            wetNow = 0;
            dryingNow = 0;
            rackPlaces = racks;
            dryingSlots = slotsToDry;
            Arrays.fill(becomeDry, 0);
            Arrays.fill(becomeWet, 0);
        }

        void advance(int slot) {
            int dried = cell(becomeDry, slot);
            dryNow += dried;
            dryingNow -= dried;
            wetNow += cell(becomeWet, slot);
            int racked = Math.min(wetNow, rackPlaces - dryingNow);
            wetNow -= racked;
            dryingNow += racked;
            put(becomeDry, slot + dryingSlots, racked);
        }

        void lend(int lengths, int end) {
            dryNow -= lengths;
            put(becomeWet, end, cell(becomeWet, end) + lengths);
        }

        void note(int slot) {
            put(dry, slot, dryNow);
            put(wet, slot, wetNow);
            put(drying, slot, dryingNow);
        }
    }

    /** The starts of the drills and what follows from them. */
    private static final class Timetable {
        private static final int MAX_VIOLATIONS = MAX_DRILLS + SLOTS;

        final HosePool hoses = new HosePool();
        final int[] starts = new int[MAX_DRILLS];
        final int[] state = new int[MAX_DRILLS];
        final int[] taken = new int[MAX_DRILLS];
        final int[] begin = new int[MAX_DRILLS];
        final int[] end = new int[MAX_DRILLS];
        final int[] back = new int[MAX_DRILLS];
        final int[] available = new int[SLOTS];
        int violationCount;
        private final Cover cover;
        private final int[] violation = new int[MAX_VIOLATIONS];
        private final int[] returning = new int[SLOTS];
        private Brigade brigade;
        private int staff;
        private int lengths;
        private int racks;
        private int away;
        private int lastStart;

        Timetable(Brigade brigade, Cover cover) {
            this.brigade = brigade;
            this.cover = cover;
        }

        void serve(Brigade loaded) {
            brigade = loaded;
            equipAs(loaded);
            dropStarts();
        }

        void equipAs(Brigade given) {
            equip(given.allEngines(), given.hoseLengths, given.rackPlaces);
        }

        void equip(int engineSet, int hoseLengths, int rackPlaces) {
            staff = engineSet;
            lengths = hoseLengths;
            racks = rackPlaces;
        }

        void dropStarts() {
            Arrays.fill(starts, NONE);
        }

        void copyStarts(Timetable other) {
            System.arraycopy(other.starts, 0, starts, 0, MAX_DRILLS);
        }

        int startOf(int drill) {
            return cell(starts, drill);
        }

        void putStart(int drill, int slot) {
            put(starts, drill, slot);
        }

        /** Gives a drill the smallest valid start that is not less than the given one, or no start. */
        int placeFrom(int drill, int earliest) {
            int first = Math.max(earliest, cell(brigade.drills.firstSlot, drill));
            for (int slot = first; slot < STARTS; slot++) {
                putStart(drill, slot);
                if (play(true)) {
                    return slot;
                }
            }
            putStart(drill, NONE);
            return NONE;
        }

        void review() {
            play(false);
            listViolations();
        }

        /** Goes through the slots; answers whether the timetable is valid, at once if only this is wanted. */
        boolean play(boolean onlyValidity) {
            reset();
            boolean valid = true;
            for (int slot = 0; slot < SLOTS; slot++) {
                hoses.advance(slot);
                away &= ~returning[slot];
                for (int drill = 0; drill < MAX_DRILLS; drill++) {
                    if (starts[drill] == slot && !launch(drill, slot)) {
                        valid = false;
                    }
                }
                hoses.note(slot);
                available[slot] = staff & ~away;
                if (cover.openStreets(available[slot]) != 0) {
                    valid = false;
                }
                // Once the last engine is back, all later slots are covered as this one is.
                if (onlyValidity && (!valid || slot >= lastStart && away == 0)) {
                    return valid;
                }
            }
            return valid;
        }

        int greatestEnd() {
            int greatest = 0;
            for (int drill = 0; drill < MAX_DRILLS; drill++) {
                greatest = Math.max(greatest, end[drill]);
            }
            return greatest;
        }

        int slotOfViolation(int index) {
            return cell(violation, index) >> 8;
        }

        int codeOfViolation(int index) {
            return cell(violation, index) >> 4 & 15;
        }

        int subjectOfViolation(int index) {
            return cell(violation, index) & 15;
        }

        private void reset() {
            hoses.refill(lengths, racks, brigade.dryingSlots);
            Arrays.fill(returning, 0);
            Arrays.fill(state, 0);
            Arrays.fill(taken, 0);
            Arrays.fill(begin, NONE);
            Arrays.fill(end, NONE);
            Arrays.fill(back, NONE);
            away = 0;
            lastStart = NONE;
            for (int drill = 0; drill < MAX_DRILLS; drill++) {
                lastStart = Math.max(lastStart, starts[drill]);
            }
        }

        /** Starts a drill or cancels it; answers whether it takes place. */
        private boolean launch(int drill, int slot) {
            int chosen = 0;
            int code = NO_ERROR;
            if (slot < cell(brigade.drills.firstSlot, drill)) {
                code = EARLY;
            } else if (!followsOthers(drill, slot)) {
                code = ORDER;
            } else {
                chosen = chooseEngines(drill);
                if (chosen == 0) {
                    code = ENGINES;
                } else if (hoses.dryNow < cell(brigade.drills.hoses, drill)) {
                    code = HOSES;
                }
            }
            if (code != NO_ERROR) {
                put(state, drill, -code);
                return false;
            }
            put(state, drill, TAKES_PLACE);
            sendOut(drill, slot, chosen);
            hoses.lend(cell(brigade.drills.hoses, drill), cell(end, drill));
            return true;
        }

        private boolean followsOthers(int drill, int slot) {
            int after = cell(brigade.drills.after, drill);
            for (int other = 0; other < MAX_DRILLS; other++) {
                if ((after >> other & 1) != 0 && (state[other] != TAKES_PLACE || end[other] > slot)) {
                    return false;
                }
            }
            return true;
        }

        /** Answers the set of engines that the drill takes, 0 if there are not enough. */
        private int chooseEngines(int drill) {
            int free = staff & ~away;
            int chosen = 0;
            for (int kind = 0; kind < KINDS; kind++) {
                int missing = cell(brigade.drills.needs, drill * KINDS + kind);
                for (int rank = 0; rank < cell(brigade.drills.callCount, drill) && missing > 0; rank++) {
                    int engine = cell(brigade.drills.calls, drill * MAX_ENGINES + rank);
                    if ((free >> engine & 1) != 0 && cell(brigade.engineKinds, engine) == kind) {
                        chosen |= 1 << engine;
                        missing--;
                    }
                }
                if (missing > 0) {
                    return 0;
                }
            }
            return chosen;
        }

        private void sendOut(int drill, int slot, int chosen) {
            int longest = 0;
            for (int engine = 0; engine < MAX_ENGINES; engine++) {
                if ((chosen >> engine & 1) != 0) {
                    longest = Math.max(longest, cell(brigade.drills.travel, drill * MAX_ENGINES + engine));
                }
            }
            int endSlot = slot + longest + cell(brigade.drills.lasts, drill);
            for (int engine = 0; engine < MAX_ENGINES; engine++) {
                if ((chosen >> engine & 1) != 0) {
                    int backSlot = endSlot + cell(brigade.drills.travel, drill * MAX_ENGINES + engine);
                    put(returning, backSlot, cell(returning, backSlot) | 1 << engine);
                }
            }
            away |= chosen;
            put(taken, drill, chosen);
            put(begin, drill, slot + longest);
            put(end, drill, endSlot);
            put(back, drill, endSlot + longest);
        }

        private void listViolations() {
            violationCount = 0;
            for (int slot = 0; slot < SLOTS; slot++) {
                for (int code = EARLY; code <= HOSES; code++) {
                    listCancelled(slot, code);
                }
                int open = cover.openStreets(available[slot]);
                if (open != 0) {
                    addViolation(slot, COVER, firstOf(open));
                }
            }
        }

        private void listCancelled(int slot, int code) {
            for (int drill = 0; drill < MAX_DRILLS; drill++) {
                if (starts[drill] == slot && state[drill] == -code) {
                    addViolation(slot, code, drill);
                }
            }
        }

        private void addViolation(int slot, int code, int subject) {
            put(violation, violationCount, slot << 8 | code << 4 | subject);
            violationCount++;
        }

        private static int firstOf(int set) {
            int first = 0;
            while (first < MAX_STREETS && (set >> first & 1) == 0) {
                first++;
            }
            return first;
        }
    }

    /** List schedules of orders, made on a timetable for trials. */
    private static final class OrderSearch {
        int bestDigits;
        private int bestEnd;
        private final Timetable trial;
        private int drillCount;

        OrderSearch(Timetable trial) {
            this.trial = trial;
        }

        /** Makes the list schedule of a checked order with what the trial has; answers whether it exists. */
        boolean listSchedule(int order) {
            trial.dropStarts();
            int slot = 0;
            for (int rest = order; rest > 0; rest /= 10) {
                slot = trial.placeFrom(rest % 10 - 1, slot);
                if (slot == NONE) {
                    return false;
                }
            }
            return true;
        }

        /** Finds the best order of all drills; answers its finish, NONE if there is none. */
        int run(int engineSet, int lengths, int racks) {
            trial.equip(engineSet, lengths, racks);
            drillCount = Math.min(trial.brigade.drills.count, MAX_DRILLS);
            bestEnd = NONE;
            bestDigits = NONE;
            trial.dropStarts();
            trial.play(true);
            extend(this, 0, 0, 0, 1, 0);
            return bestEnd;
        }

        /** Tries all ways to go on after the drills taken, in lexicographical order: the first of equals stays. */
        private static void extend(OrderSearch search, int depth, int taken, int digits, int unit, int earliest) {
            int reached = search.trial.greatestEnd();
            // One more drill never lets an earlier one end sooner: it only leaves it fewer engines to choose from.
            if (search.bestEnd != NONE && reached >= search.bestEnd) {
                return;
            }
            if (depth >= search.drillCount) {
                search.bestEnd = reached;
                search.bestDigits = digits;
                return;
            }
            for (int drill = 0; drill < search.drillCount; drill++) {
                if ((taken >> drill & 1) == 0) {
                    int slot = search.trial.placeFrom(drill, earliest);
                    if (slot != NONE) {
                        extend(search, depth + 1, taken | 1 << drill, digits + (drill + 1) * unit, unit * 10, slot);
                    }
                    search.trial.putStart(drill, NONE);
                }
            }
        }
    }

    /** The starts before each of the latest edits. */
    private static final class History {
        private static final int MAX_EDITS = 8;

        int kept;
        private final int[] rows = new int[MAX_EDITS * MAX_DRILLS];

        void remember(int[] starts) {
            if (kept >= MAX_EDITS) {
                System.arraycopy(rows, MAX_DRILLS, rows, 0, (MAX_EDITS - 1) * MAX_DRILLS);
                kept = MAX_EDITS - 1;
            }
            for (int drill = 0; drill < MAX_DRILLS; drill++) {
                put(rows, kept * MAX_DRILLS + drill, cell(starts, drill));
            }
            kept++;
        }

        void restore(int[] starts) {
            if (kept <= 0) {
                return;
            }
            kept--;
            for (int drill = 0; drill < MAX_DRILLS; drill++) {
                put(starts, drill, cell(rows, kept * MAX_DRILLS + drill));
            }
        }
    }
}
