/**
 * A composer of museum guides.
 *
 * <p>The face checks what it is given and hands the work on: {@link Tokens}, {@link Grammar} and
 * {@link Naming} read the tape into a {@link Text}; {@link Plan} knows when rooms are closed and
 * which way is shortest; {@link Runner} carries out a tour for a {@link Visit}; {@link Composer}
 * composes tours. Every row of numbers is a {@link Row}, made once and used again.
 */
public final class MuseumGuide {
    private static final int MOST_BYTES = 2000;
    private static final int MOST_VISITORS = 8;
    private static final int MOST_SECOND = 200000;
    private static final int MOST_BEGIN = 90000;
    private static final int MOST_TIME = 20000;
    private static final int MOST_EVENTS = 600;

    private final Row tape = new Row(MOST_BYTES);
    private final Tokens tokens = new Tokens();
    private final Grammar grammar = new Grammar(tokens);
    private final Naming naming = new Naming(tokens, tape);
    private final Plan plan = new Plan();
    private final Row paces = new Row(MOST_VISITORS);
    private final Row staminas = new Row(MOST_VISITORS);
    private final Row kinds = new Row(MOST_VISITORS);
    private final Visit latestVisit = new Visit(plan, MOST_EVENTS);
    private final Visit trialVisit = new Visit(plan, 0);
    private final Runner runner = new Runner(plan);
    private final Composer composer = new Composer(plan);
    private Text draft = new Text();
    private int errorPlace = -1;

    public MuseumGuide() {
    }

    // ---- the language

    public int feed(int a, int b, int c, int d, int e) throws IllegalStateException {
        if (tape.size() + 20 > MOST_BYTES) {
            throw new IllegalStateException("the tape would be too long");
        }
        feedFour(a);
        feedFour(b);
        feedFour(c);
        feedFour(d);
        feedFour(e);
        return tape.size();
    }

    private void feedFour(int number) {
        for (int shift = 24; shift >= 0; shift -= 8) {
            tape.add((number >>> shift) & 255);
        }
    }

    public int trim(int n) throws IllegalArgumentException {
        requireRange(n, 0, tape.size());
        tape.cut(n);
        return n;
    }

    public int teach() {
        tokens.split(tape);
        draft.clear();
        int error = grammar.read(draft);
        int errorToken = grammar.errorToken();
        if (error == 0) {
            error = naming.check(draft);
            errorToken = naming.errorToken();
        }
        tape.cut(0);
        if (error != 0) {
            errorPlace = tokens.starts.get(errorToken);
            return error;
        }
        errorPlace = -1;
        draft = plan.furnish(draft);
        latestVisit.forget();
        return 0;
    }

    public int errorAt() {
        return errorPlace;
    }

    public int count(int what) throws IndexOutOfBoundsException {
        switch (what) {
            case 0:
                return plan.text().rooms();
            case 1:
                return plan.text().doors();
            case 2:
                return plan.text().parts();
            case 3:
                return plan.text().tours();
            case 4:
                return paces.size();
            case 5:
                return tape.size();
            case 6:
                return composer.paper.size();
            case 7:
                return latestVisit.events();
            default:
                throw new IndexOutOfBoundsException("what is not 0 to 7");
        }
    }

    public int part(int part, int what) throws IndexOutOfBoundsException {
        requirePart(part);
        Text text = plan.text();
        switch (what) {
            case 0:
                return text.partRooms.get(part);
            case 1:
                return text.partLengths.get(part);
            case 2:
                return text.partWorths.get(part);
            case 3:
                return text.partKinds.get(part);
            case 4:
                return text.partNeeds.get(part);
            default:
                throw new IndexOutOfBoundsException("what is not 0 to 4");
        }
    }

    // ---- rooms and visitors

    public int close(int room, int from, int to)
            throws IndexOutOfBoundsException, IllegalArgumentException, IllegalStateException {
        requireRoom(room);
        if (from < 0 || to <= from || to > 100000) {
            throw new IllegalArgumentException("no such seconds");
        }
        if (plan.closings(room) >= Plan.MOST_CLOSINGS) {
            throw new IllegalStateException("the room is closed 4 times already");
        }
        plan.shut(room, from, to);
        return plan.closings(room);
    }

    public int reopen(int room) throws IndexOutOfBoundsException {
        requireRoom(room);
        int closings = plan.closings(room);
        plan.unshut(room);
        return closings;
    }

    public boolean isOpen(int room, int second) throws IndexOutOfBoundsException, IllegalArgumentException {
        requireRoom(room);
        requireRange(second, 0, MOST_SECOND);
        return plan.opens(room, second);
    }

    public int way(int from, int to, int second) throws IndexOutOfBoundsException, IllegalArgumentException {
        requireRoom(from);
        requireRoom(to);
        requireRange(second, 0, MOST_SECOND);
        return plan.steps(from, to, second);
    }

    public int come(int pace, int stamina, int kind) throws IllegalArgumentException, IllegalStateException {
        requireRange(pace, 1, 9);
        requireRange(stamina, 10, 500);
        requireRange(kind, 0, 2);
        if (paces.size() >= MOST_VISITORS) {
            throw new IllegalStateException("there are 8 visitors");
        }
        paces.add(pace);
        staminas.add(stamina);
        kinds.add(kind);
        return paces.size() - 1;
    }

    public int visitor(int visitor, int what) throws IndexOutOfBoundsException {
        requireVisitor(visitor);
        switch (what) {
            case 0:
                return paces.get(visitor);
            case 1:
                return staminas.get(visitor);
            case 2:
                return kinds.get(visitor);
            default:
                throw new IndexOutOfBoundsException("what is not 0 to 2");
        }
    }

    // ---- visits

    public int visit(int visitor, int tour, int room, int second, int time)
            throws IndexOutOfBoundsException, IllegalArgumentException {
        requireVisitor(visitor);
        requireTour(tour);
        requireRoom(room);
        requireRange(second, 0, MOST_BEGIN);
        requireRange(time, 1, MOST_TIME);
        enter(latestVisit.stand, visitor, room, second);
        latestVisit.begin(time);
        return runner.run(latestVisit, tour);
    }

    public int latest(int what) throws IndexOutOfBoundsException, IllegalStateException {
        if (what < 0 || what > 9) {
            throw new IndexOutOfBoundsException("what is not 0 to 9");
        }
        if (!latestVisit.happened()) {
            throw new IllegalStateException("there was no visit");
        }
        return latestVisit.tell(what);
    }

    public int event(int index, int what) throws IndexOutOfBoundsException {
        if (index < 0 || index >= latestVisit.events()) {
            throw new IndexOutOfBoundsException("no such event");
        }
        if (what < 0 || what > 2) {
            throw new IndexOutOfBoundsException("what is not 0 to 2");
        }
        return latestVisit.log.get(index * Visit.EVENT_WIDTH + what);
    }

    public boolean heard(int part) throws IndexOutOfBoundsException {
        requirePart(part);
        return latestVisit.stand.hasHeard(part);
    }

    public int begins(int visitor, int tour, int room, int second, int time)
            throws IndexOutOfBoundsException, IllegalArgumentException {
        requireVisitor(visitor);
        requireTour(tour);
        requireRoom(room);
        requireRange(second, 0, MOST_BEGIN);
        requireRange(time, 1, MOST_TIME);
        int most = -1;
        int best = second;
        for (int later = 0; later < 6000; later += 300) {
            enter(trialVisit.stand, visitor, room, second + later);
            trialVisit.begin(time);
            int worth = runner.run(trialVisit, tour);
            if (worth > most) {
                most = worth;
                best = second + later;
            }
        }
        return best;
    }

    public int needs(int visitor, int tour, int room, int second, int worth)
            throws IndexOutOfBoundsException, IllegalArgumentException {
        requireVisitor(visitor);
        requireTour(tour);
        requireRoom(room);
        requireRange(second, 0, MOST_BEGIN);
        requireRange(worth, 0, 2000);
        for (int time = 100; time <= 6000; time += 100) {
            enter(trialVisit.stand, visitor, room, second);
            trialVisit.begin(time);
            if (runner.run(trialVisit, tour) >= worth) {
                return time;
            }
        }
        return -1;
    }

    // ---- composing

    public int compose(int visitor, int room, int second, int time)
            throws IndexOutOfBoundsException, IllegalArgumentException {
        requireVisitor(visitor);
        requireRoom(room);
        requireRange(second, 0, MOST_BEGIN);
        requireRange(time, 1, MOST_TIME);
        enter(composer.stand, visitor, room, second);
        return composer.write(second + time);
    }

    public int byteAt(int index) throws IndexOutOfBoundsException {
        if (index < 0 || index >= composer.paper.size()) {
            throw new IndexOutOfBoundsException("no such place");
        }
        return composer.paper.get(index);
    }

    public int best(int visitor, int room, int second, int time)
            throws IndexOutOfBoundsException, IllegalArgumentException, IllegalStateException {
        requireVisitor(visitor);
        requireRoom(room);
        requireRange(second, 0, MOST_BEGIN);
        requireRange(time, 1, MOST_TIME);
        if (plan.text().parts() > Composer.MOST_SEARCHED) {
            throw new IllegalStateException("there are more than 6 parts");
        }
        enter(composer.stand, visitor, room, second);
        return composer.greatest(second + time);
    }

    public double share() {
        int parts = plan.text().parts();
        if (parts == 0) {
            return 0;
        }
        return (double) Integer.bitCount(latestVisit.stand.heardParts) / parts;
    }

    public long digest() {
        long d = 691;
        for (int what = 0; what < 8; what++) {
            d = d * 31 + count(what);
        }
        d = digestRooms(d);
        for (int part = 0; part < plan.text().parts(); part++) {
            for (int what = 0; what < 5; what++) {
                d = d * 31 + part(part, what);
            }
        }
        for (int visitor = 0; visitor < paces.size(); visitor++) {
            for (int what = 0; what < 3; what++) {
                d = d * 31 + visitor(visitor, what);
            }
        }
        if (latestVisit.happened()) {
            d = digestVisit(d);
        }
        for (int index = 0; index < composer.paper.size(); index++) {
            d = d * 31 + composer.paper.get(index);
        }
        return d;
    }

    private long digestRooms(long start) {
        long d = start;
        int rooms = plan.text().rooms();
        for (int from = 0; from < rooms; from++) {
            d = d * 31 + plan.closings(from);
            for (int to = 0; to < rooms; to++) {
                d = d * 31 + plan.steps(from, to, 0);
            }
        }
        return d;
    }

    private long digestVisit(long start) {
        long d = start;
        for (int what = 0; what < 10; what++) {
            d = d * 31 + latestVisit.tell(what);
        }
        for (int index = 0; index < latestVisit.log.size(); index++) {
            d = d * 31 + latestVisit.log.get(index);
        }
        return d;
    }

    // ---- what the face shares

    private void enter(Stand stand, int visitor, int room, int second) {
        stand.isOf(paces.get(visitor), staminas.get(visitor), kinds.get(visitor));
        stand.put(second, room, 0, 0, 0);
    }

    private void requireRoom(int room) {
        if (room < 0 || room >= plan.text().rooms()) {
            throw new IndexOutOfBoundsException("no such room");
        }
    }

    private void requirePart(int part) {
        if (part < 0 || part >= plan.text().parts()) {
            throw new IndexOutOfBoundsException("no such part");
        }
    }

    private void requireTour(int tour) {
        if (tour < 0 || tour >= plan.text().tours()) {
            throw new IndexOutOfBoundsException("no such tour");
        }
    }

    private void requireVisitor(int visitor) {
        if (visitor < 0 || visitor >= paces.size()) {
            throw new IndexOutOfBoundsException("no such visitor");
        }
    }

    private static void requireRange(int value, int least, int most) {
        if (value < least || value > most) {
            throw new IllegalArgumentException("a number out of its range");
        }
    }

    /**
     * A row of numbers with a fixed most length. It looks at every index itself: behind its end it
     * holds zeros, and takes nothing.
     */
    private static final class Row {
        private final int[] cells;
        private int size;

        Row(int most) {
            cells = new int[most > 0 ? most : 0];
        }

        int size() {
            return size;
        }

        int get(int index) {
            return index >= 0 && index < size && index < cells.length ? cells[index] : 0;
        }

        void set(int index, int value) {
            if (index >= 0 && index < size && index < cells.length) {
                cells[index] = value;
            }
        }

        void add(int value) {
            if (size >= 0 && size < cells.length) {
                cells[size] = value;
                size++;
            }
        }

        int pop() {
            int value = get(size - 1);
            cut(size - 1);
            return value;
        }

        void cut(int length) {
            if (length >= 0 && length < size) {
                size = length;
            }
        }

        void fill(int value) {
            for (int index = 0; index < cells.length; index++) {
                cells[index] = value;
            }
            size = cells.length;
        }
    }

    /** The tape, split into tokens; behind a byte that begins none, or the 400th, it goes no further. */
    private static final class Tokens {
        // The keywords are numbered in the order in which they stand here, each one six bytes wide.
        private static final String KEYWORDS =
            "room  door  part  in    needs for   worth all   child experttour  go    play  rest  if    else  repeatcall  heard open  time  left  tired pace  not   and   or    min   max   ";
        private static final int KEYWORD_WIDTH = 6;
        private static final int KEYWORD_COUNT = 29;
        static final int ROOM = 0;
        static final int DOOR = 1;
        static final int PART = 2;
        static final int IN = 3;
        static final int NEEDS = 4;
        static final int FOR = 5;
        static final int WORTH = 6;
        static final int ALL = 7;
        static final int CHILD = 8;
        static final int EXPERT = 9;
        static final int TOUR = 10;
        static final int GO = 11;
        static final int PLAY = 12;
        static final int REST = 13;
        static final int IF = 14;
        static final int ELSE = 15;
        static final int REPEAT = 16;
        static final int CALL = 17;
        static final int HEARD = 18;
        static final int OPEN = 19;
        static final int TIME = 20;
        static final int LEFT = 21;
        static final int TIRED = 22;
        static final int PACE = 23;
        static final int NOT = 24;
        static final int AND = 25;
        static final int OR = 26;
        static final int MIN = 27;
        static final int MAX = 28;
        static final int NAME = 29;
        static final int NUMBER = 30;
        // The symbols of one byte are numbered from 31 in the order in which they stand here.
        private static final String SYMBOLS = "{}()[];,+-*/<>=";
        private static final int FIRST_SYMBOL = 31;
        static final int BRACE = 31;
        static final int BRACE_END = 32;
        static final int PAREN = 33;
        static final int PAREN_END = 34;
        static final int BRACKET = 35;
        static final int BRACKET_END = 36;
        static final int SEMICOLON = 37;
        static final int COMMA = 38;
        static final int PLUS = 39;
        static final int MINUS = 40;
        static final int TIMES = 41;
        static final int DIVIDE = 42;
        static final int LESS = 43;
        static final int GREATER = 44;
        static final int EQUAL = 45;
        static final int AT_MOST = 46;
        static final int AT_LEAST = 47;
        static final int END = 48;
        static final int BAD = 49;

        private static final int MOST_TOKENS = 400;
        private static final int MOST_LETTERS = 10;
        private static final int MOST_DIGITS = 6;

        // One place more than there can be tokens: for the end of the tape, or the 401st.
        final Row kinds = new Row(MOST_TOKENS + 1);
        final Row starts = new Row(MOST_TOKENS + 1);
        final Row lengths = new Row(MOST_TOKENS + 1);
        final Row numbers = new Row(MOST_TOKENS + 1);
        // What Grammar finds a name or number to be, and the instruction that waits for it.
        final Row roles = new Row(MOST_TOKENS + 1);
        final Row places = new Row(MOST_TOKENS + 1);

        void split(Row tape) {
            clear();
            int at = 0;
            for (int turn = 0; turn <= tape.size(); turn++) {
                at = behindBlanks(tape, at);
                if (at >= tape.size()) {
                    append(END, tape.size(), 0, 0);
                    return;
                }
                int length = lengthAt(tape, at);
                int kind = kinds.size() < MOST_TOKENS ? kindAt(tape, at, length) : BAD;
                append(kind, at, length, kind == NUMBER ? numberAt(tape, at, length) : 0);
                if (kind == BAD) {
                    return;
                }
                at += length;
            }
        }

        private void clear() {
            kinds.cut(0);
            starts.cut(0);
            lengths.cut(0);
            numbers.cut(0);
            roles.cut(0);
            places.cut(0);
        }

        private void append(int kind, int start, int length, int number) {
            kinds.add(kind);
            starts.add(start);
            lengths.add(length);
            numbers.add(number);
            roles.add(0);
            places.add(0);
        }

        private static int behindBlanks(Row tape, int start) {
            int at = start;
            while (at < tape.size() && (tape.get(at) == ' ' || tape.get(at) == '\n')) {
                at++;
            }
            return at;
        }

        private static int lengthAt(Row tape, int start) {
            int first = tape.get(start);
            int end = start + 1;
            if (isLetter(first)) {
                while (end < tape.size() && (isLetter(tape.get(end)) || isDigit(tape.get(end)))) {
                    end++;
                }
            } else if (isDigit(first)) {
                while (end < tape.size() && isDigit(tape.get(end))) {
                    end++;
                }
            } else if ((first == '<' || first == '>') && tape.get(end) == '=') {
                end++;
            }
            return end - start;
        }

        private static int kindAt(Row tape, int start, int length) {
            int first = tape.get(start);
            if (isLetter(first)) {
                return length > MOST_LETTERS ? BAD : wordAt(tape, start, length);
            }
            if (isDigit(first)) {
                return length > MOST_DIGITS ? BAD : NUMBER;
            }
            if (length == 2) {
                return first == '<' ? AT_MOST : AT_LEAST;
            }
            int symbol = SYMBOLS.indexOf((char) first);
            return symbol < 0 ? BAD : FIRST_SYMBOL + symbol;
        }

        private static int wordAt(Row tape, int start, int length) {
            for (int keyword = 0; keyword < KEYWORD_COUNT; keyword++) {
                if (isKeyword(keyword, tape, start, length)) {
                    return keyword;
                }
            }
            return NAME;
        }

        private static boolean isKeyword(int keyword, Row tape, int start, int length) {
            if (length > KEYWORD_WIDTH) {
                return false;
            }
            for (int index = 0; index < KEYWORD_WIDTH; index++) {
                int place = keyword * KEYWORD_WIDTH + index;
                int sign = index < length ? tape.get(start + index) : ' ';
                if (place < 0 || place >= KEYWORDS.length() || KEYWORDS.charAt(place) != sign) {
                    return false;
                }
            }
            return true;
        }

        private static int numberAt(Row tape, int start, int length) {
            int number = 0;
            for (int index = 0; index < length; index++) {
                number = number * 10 + tape.get(start + index) - '0';
            }
            return number;
        }

        private static boolean isLetter(int sign) {
            return sign >= 'a' && sign <= 'z';
        }

        private static boolean isDigit(int sign) {
            return sign >= '0' && sign <= '9';
        }
    }

    /**
     * Reads the tokens by the grammar, and writes the instructions of the tours into the text.
     *
     * <p>It keeps a stack of goals. A goal is a token that is due (the kinds of Tokens), a name or
     * number in a role, a sort of words for which the next token chooses the rule, or something to
     * do. As every choice is made by the next token alone, the token at which a goal can't be met
     * is the first one with which the tokens are not the beginning of a text.
     */
    private static final class Grammar {
        // The roles of names and numbers.
        private static final int FIRST_ROLE = 60;
        static final int NEW_ROOM = 60;
        static final int DOOR_FROM = 61;
        static final int DOOR_TO = 62;
        static final int NEW_PART = 63;
        static final int PART_ROOM = 64;
        static final int PART_NEED = 65;
        static final int NEW_TOUR = 66;
        static final int USED_ROOM = 67;
        static final int USED_PART = 68;
        static final int USED_TOUR = 69;
        private static final int FIRST_NUMBER = 70;
        static final int DOOR_STEPS = 70;
        static final int PART_LENGTH = 71;
        static final int PART_WORTH = 72;
        static final int REST_SECONDS = 73;
        static final int REPEAT_TIMES = 74;
        static final int ANY_NUMBER = 75;
        // The sorts of words.
        private static final int FIRST_SORT = 80;
        private static final int TEXT = 80;
        private static final int PART_NEEDS = 81;
        private static final int MORE_NEEDS = 82;
        private static final int PART_FOR = 83;
        private static final int PART_KIND = 84;
        private static final int PART_VALUE = 85;
        private static final int BLOCK = 86;
        private static final int SENTENCES = 87;
        private static final int ELSE_BLOCK = 88;
        private static final int TEST = 89;
        private static final int MORE_TEST = 90;
        private static final int MORE_BOTH = 91;
        private static final int SINGLE = 92;
        private static final int COMPARISON = 93;
        private static final int SUM = 94;
        private static final int MORE_SUM = 95;
        private static final int PRODUCT = 96;
        private static final int MORE_PRODUCT = 97;
        private static final int VALUE = 98;
        private static final int PAIR = 99;
        // What is to be done.
        private static final int FIRST_DEED = 100;
        private static final int DEEPER = 100;
        private static final int SHALLOWER = 101;
        private static final int KEEP_HOLE = 102;
        private static final int FILL_HOLE = 103;
        private static final int LOOP_END = 104;
        // An instruction is to be written: this, and its number added.
        private static final int WRITE = 110;

        private static final int[] NO_RULE = {};
        private static final int[] ROOM_RULE = {Tokens.ROOM, NEW_ROOM, Tokens.SEMICOLON, TEXT};
        private static final int[] DOOR_RULE = {Tokens.DOOR, DOOR_FROM, DOOR_TO, DOOR_STEPS, Tokens.SEMICOLON, TEXT};
        private static final int[] PART_RULE = {Tokens.PART, NEW_PART, Tokens.IN, PART_ROOM, PART_LENGTH,
            PART_NEEDS, PART_FOR, PART_VALUE, Tokens.SEMICOLON, TEXT};
        private static final int[] TOUR_RULE = {Tokens.TOUR, NEW_TOUR, BLOCK, WRITE + Runner.RETURN, TEXT};
        private static final int[] END_RULE = {Tokens.END};
        private static final int[] NEEDS_RULE = {Tokens.NEEDS, PART_NEED, MORE_NEEDS};
        private static final int[] MORE_NEEDS_RULE = {Tokens.COMMA, PART_NEED, MORE_NEEDS};
        private static final int[] FOR_RULE = {Tokens.FOR, PART_KIND};
        private static final int[] ALL_RULE = {Tokens.ALL};
        private static final int[] CHILD_RULE = {Tokens.CHILD};
        private static final int[] EXPERT_RULE = {Tokens.EXPERT};
        private static final int[] WORTH_RULE = {Tokens.WORTH, PART_WORTH};

        private static final int[] BLOCK_RULE = {DEEPER, Tokens.BRACE, SENTENCES, Tokens.BRACE_END, SHALLOWER};
        private static final int[] GO_RULE = {WRITE + Runner.STEP, Tokens.GO,
            WRITE + Runner.GO, USED_ROOM, Tokens.SEMICOLON, SENTENCES};
        private static final int[] PLAY_RULE = {WRITE + Runner.STEP, Tokens.PLAY,
            WRITE + Runner.PLAY, USED_PART, Tokens.SEMICOLON, SENTENCES};
        private static final int[] REST_RULE = {WRITE + Runner.STEP, Tokens.REST,
            WRITE + Runner.REST, REST_SECONDS, Tokens.SEMICOLON, SENTENCES};
        private static final int[] CALL_RULE = {WRITE + Runner.STEP, Tokens.CALL,
            WRITE + Runner.CALL, USED_TOUR, Tokens.SEMICOLON, SENTENCES};
        private static final int[] IF_RULE = {WRITE + Runner.STEP, Tokens.IF, TEST,
            WRITE + Runner.UNLESS, KEEP_HOLE, BLOCK, ELSE_BLOCK, FILL_HOLE, SENTENCES};
        private static final int[] ELSE_RULE = {Tokens.ELSE, WRITE + Runner.JUMP, FILL_HOLE, KEEP_HOLE, BLOCK};
        private static final int[] REPEAT_RULE = {WRITE + Runner.STEP, Tokens.REPEAT, WRITE + Runner.LOOP,
            REPEAT_TIMES, WRITE + Runner.AGAIN, KEEP_HOLE, BLOCK, LOOP_END, SENTENCES};

        private static final int[] TEST_RULE = {SINGLE, MORE_BOTH, MORE_TEST};
        private static final int[] OR_RULE = {Tokens.OR, SINGLE, MORE_BOTH, WRITE + Runner.OR, MORE_TEST};
        private static final int[] AND_RULE = {Tokens.AND, SINGLE, WRITE + Runner.AND, MORE_BOTH};
        private static final int[] NOT_RULE = {DEEPER, Tokens.NOT, SINGLE, SHALLOWER, WRITE + Runner.NOT};
        private static final int[] BRACKET_RULE = {DEEPER, Tokens.BRACKET, TEST, Tokens.BRACKET_END, SHALLOWER};
        private static final int[] HEARD_RULE = {Tokens.HEARD, WRITE + Runner.HEARD, USED_PART};
        private static final int[] OPEN_RULE = {Tokens.OPEN, WRITE + Runner.OPEN, USED_ROOM};
        private static final int[] COMPARED_RULE = {SUM, COMPARISON};
        private static final int[] LESS_RULE = {Tokens.LESS, SUM, WRITE + Runner.LESS};
        private static final int[] GREATER_RULE = {Tokens.GREATER, SUM, WRITE + Runner.GREATER};
        private static final int[] EQUAL_RULE = {Tokens.EQUAL, SUM, WRITE + Runner.EQUAL};
        private static final int[] AT_MOST_RULE = {Tokens.AT_MOST, SUM, WRITE + Runner.AT_MOST};
        private static final int[] AT_LEAST_RULE = {Tokens.AT_LEAST, SUM, WRITE + Runner.AT_LEAST};

        private static final int[] SUM_RULE = {PRODUCT, MORE_SUM};
        private static final int[] PLUS_RULE = {Tokens.PLUS, PRODUCT, WRITE + Runner.ADD, MORE_SUM};
        private static final int[] MINUS_RULE = {Tokens.MINUS, PRODUCT, WRITE + Runner.SUBTRACT, MORE_SUM};
        private static final int[] PRODUCT_RULE = {VALUE, MORE_PRODUCT};
        private static final int[] TIMES_RULE = {Tokens.TIMES, VALUE, WRITE + Runner.MULTIPLY, MORE_PRODUCT};
        private static final int[] DIVIDE_RULE = {Tokens.DIVIDE, VALUE, WRITE + Runner.DIVIDE, MORE_PRODUCT};
        private static final int[] NUMBER_RULE = {WRITE + Runner.NUMBER, ANY_NUMBER};
        private static final int[] TIME_RULE = {Tokens.TIME, WRITE + Runner.TIME};
        private static final int[] LEFT_RULE = {Tokens.LEFT, WRITE + Runner.LEFT};
        private static final int[] TIRED_RULE = {Tokens.TIRED, WRITE + Runner.TIRED};
        private static final int[] PACE_RULE = {Tokens.PACE, WRITE + Runner.PACE};
        private static final int[] VALUE_WORTH_RULE = {Tokens.WORTH, WRITE + Runner.WORTH};
        private static final int[] NEGATIVE_RULE = {DEEPER, Tokens.MINUS, VALUE, SHALLOWER, WRITE + Runner.NEGATE};
        private static final int[] PAREN_RULE = {DEEPER, Tokens.PAREN, SUM, Tokens.PAREN_END, SHALLOWER};
        private static final int[] MIN_RULE = {Tokens.MIN, PAIR, WRITE + Runner.MIN};
        private static final int[] MAX_RULE = {Tokens.MAX, PAIR, WRITE + Runner.MAX};
        private static final int[] PAIR_RULE = {DEEPER, Tokens.PAREN, SUM, Tokens.COMMA, SUM,
            Tokens.PAREN_END, SHALLOWER};

        private static final int MOST_DEPTH = 8;
        // Far more than the goals of 400 tokens, and than a text of depth 8 leaves open at once.
        private static final int MOST_TURNS = 100000;
        private static final int MOST_GOALS = 200;

        private final Tokens tokens;
        private final Row goals = new Row(MOST_GOALS);
        // Instructions that wait to be told where they jump.
        private final Row holes = new Row(MOST_DEPTH + 2);
        private int next;
        private int depth;
        private boolean failed;

        Grammar(Tokens tokens) {
            this.tokens = tokens;
        }

        /** Returns the error, 1, or 0. */
        int read(Text text) {
            goals.cut(0);
            holes.cut(0);
            next = 0;
            depth = 0;
            failed = false;
            goals.add(TEXT);
            for (int turn = 0; turn < MOST_TURNS && goals.size() > 0 && !failed; turn++) {
                meet(goals.pop(), text);
            }
            return failed ? 1 : 0;
        }

        int errorToken() {
            return next;
        }

        private void meet(int goal, Text text) {
            if (goal >= WRITE) {
                text.write(goal - WRITE, 0);
            } else if (goal >= FIRST_DEED) {
                act(goal, text);
            } else if (goal >= FIRST_SORT) {
                follow(ruleFor(goal, tokens.kinds.get(next)));
            } else if (goal >= FIRST_ROLE) {
                takeInRole(goal, text);
            } else {
                take(goal);
            }
        }

        private void take(int due) {
            failed = tokens.kinds.get(next) != due;
            next += failed ? 0 : 1;
        }

        private void takeInRole(int role, Text text) {
            // A tour begins with the next instruction; the others wait in the one just written.
            tokens.places.set(next, role == NEW_TOUR ? text.ops.size() : text.ops.size() - 1);
            tokens.roles.set(next, role);
            take(role >= FIRST_NUMBER ? Tokens.NUMBER : Tokens.NAME);
        }

        private void act(int deed, Text text) {
            switch (deed) {
                case DEEPER:
                    failed = depth >= MOST_DEPTH;
                    depth++;
                    break;
                case SHALLOWER:
                    depth--;
                    break;
                case KEEP_HOLE:
                    holes.add(text.ops.size() - 1);
                    break;
                case FILL_HOLE:
                    text.operands.set(holes.pop(), text.ops.size());
                    break;
                default:
                    endLoop(text);
            }
        }

        private void endLoop(Text text) {
            int again = holes.pop();
            text.write(Runner.JUMP, again);
            text.operands.set(again, text.ops.size());
        }

        /** Puts the rule's goals on the stack, the first one on top. */
        private void follow(int[] rule) {
            for (int index = rule.length - 1; index >= 0; index--) {
                goals.add(rule[index]);
            }
        }

        // Where one rule of several has to be followed, the last one is for all other tokens too:
        // its first goal fails at them.
        private static int[] ruleFor(int sort, int kind) {
            switch (sort) {
                case TEXT:
                    return thingRule(kind);
                case PART_NEEDS:
                    return kind == Tokens.NEEDS ? NEEDS_RULE : NO_RULE;
                case MORE_NEEDS:
                    return kind == Tokens.COMMA ? MORE_NEEDS_RULE : NO_RULE;
                case PART_FOR:
                    return kind == Tokens.FOR ? FOR_RULE : NO_RULE;
                case PART_KIND:
                    return kind == Tokens.ALL ? ALL_RULE : kind == Tokens.CHILD ? CHILD_RULE : EXPERT_RULE;
                case PART_VALUE:
                    return kind == Tokens.WORTH ? WORTH_RULE : NO_RULE;
                case BLOCK:
                    return BLOCK_RULE;
                case SENTENCES:
                    return sentenceRule(kind);
                case ELSE_BLOCK:
                    return kind == Tokens.ELSE ? ELSE_RULE : NO_RULE;
                case TEST:
                    return TEST_RULE;
                case MORE_TEST:
                    return kind == Tokens.OR ? OR_RULE : NO_RULE;
                case MORE_BOTH:
                    return kind == Tokens.AND ? AND_RULE : NO_RULE;
                case SINGLE:
                    return singleRule(kind);
                case COMPARISON:
                    return comparisonRule(kind);
                case SUM:
                    return SUM_RULE;
                case MORE_SUM:
                    return kind == Tokens.PLUS ? PLUS_RULE : kind == Tokens.MINUS ? MINUS_RULE : NO_RULE;
                case PRODUCT:
                    return PRODUCT_RULE;
                case MORE_PRODUCT:
                    return kind == Tokens.TIMES ? TIMES_RULE : kind == Tokens.DIVIDE ? DIVIDE_RULE : NO_RULE;
                case VALUE:
                    return valueRule(kind);
                default:
                    return PAIR_RULE;
            }
        }

        private static int[] thingRule(int kind) {
            switch (kind) {
                case Tokens.ROOM:
                    return ROOM_RULE;
                case Tokens.DOOR:
                    return DOOR_RULE;
                case Tokens.PART:
                    return PART_RULE;
                case Tokens.TOUR:
                    return TOUR_RULE;
                default:
                    return END_RULE;
            }
        }

        private static int[] sentenceRule(int kind) {
            switch (kind) {
                case Tokens.GO:
                    return GO_RULE;
                case Tokens.PLAY:
                    return PLAY_RULE;
                case Tokens.REST:
                    return REST_RULE;
                case Tokens.CALL:
                    return CALL_RULE;
                case Tokens.IF:
                    return IF_RULE;
                case Tokens.REPEAT:
                    return REPEAT_RULE;
                default:
                    return NO_RULE;
            }
        }

        private static int[] singleRule(int kind) {
            switch (kind) {
                case Tokens.NOT:
                    return NOT_RULE;
                case Tokens.BRACKET:
                    return BRACKET_RULE;
                case Tokens.HEARD:
                    return HEARD_RULE;
                case Tokens.OPEN:
                    return OPEN_RULE;
                default:
                    return COMPARED_RULE;
            }
        }

        private static int[] comparisonRule(int kind) {
            switch (kind) {
                case Tokens.LESS:
                    return LESS_RULE;
                case Tokens.GREATER:
                    return GREATER_RULE;
                case Tokens.EQUAL:
                    return EQUAL_RULE;
                case Tokens.AT_MOST:
                    return AT_MOST_RULE;
                default:
                    return AT_LEAST_RULE;
            }
        }

        private static int[] valueRule(int kind) {
            switch (kind) {
                case Tokens.TIME:
                    return TIME_RULE;
                case Tokens.LEFT:
                    return LEFT_RULE;
                case Tokens.TIRED:
                    return TIRED_RULE;
                case Tokens.PACE:
                    return PACE_RULE;
                case Tokens.WORTH:
                    return VALUE_WORTH_RULE;
                case Tokens.MINUS:
                    return NEGATIVE_RULE;
                case Tokens.PAREN:
                    return PAREN_RULE;
                case Tokens.MIN:
                    return MIN_RULE;
                case Tokens.MAX:
                    return MAX_RULE;
                default:
                    return NUMBER_RULE;
            }
        }
    }

    /** What was told: rooms, doors, parts and tours, and the tours' instructions in one row. */
    private static final class Text {
        static final int MOST_ROOMS = 12;
        static final int MOST_DOORS = 24;
        static final int MOST_PARTS = 16;
        static final int MOST_TOURS = 6;
        // A name takes so many places, those behind its end hold 0.
        static final int NAME_WIDTH = 10;
        // No token writes more than one instruction, counted over a whole text.
        private static final int MOST_INSTRUCTIONS = 400;

        final Row roomNames = new Row(MOST_ROOMS * NAME_WIDTH);
        final Row doorFroms = new Row(MOST_DOORS);
        final Row doorTos = new Row(MOST_DOORS);
        final Row doorSteps = new Row(MOST_DOORS);
        final Row partNames = new Row(MOST_PARTS * NAME_WIDTH);
        final Row partRooms = new Row(MOST_PARTS);
        final Row partLengths = new Row(MOST_PARTS);
        final Row partWorths = new Row(MOST_PARTS);
        final Row partKinds = new Row(MOST_PARTS);
        final Row partNeeds = new Row(MOST_PARTS);
        final Row tourNames = new Row(MOST_TOURS * NAME_WIDTH);
        final Row tourStarts = new Row(MOST_TOURS);
        final Row ops = new Row(MOST_INSTRUCTIONS);
        final Row operands = new Row(MOST_INSTRUCTIONS);

        void clear() {
            roomNames.cut(0);
            doorFroms.cut(0);
            doorTos.cut(0);
            doorSteps.cut(0);
            partNames.cut(0);
            partRooms.cut(0);
            partLengths.cut(0);
            partWorths.cut(0);
            partKinds.cut(0);
            partNeeds.cut(0);
            tourNames.cut(0);
            tourStarts.cut(0);
            ops.cut(0);
            operands.cut(0);
        }

        int rooms() {
            return roomNames.size() / NAME_WIDTH;
        }

        int doors() {
            return doorSteps.size();
        }

        int parts() {
            return partLengths.size();
        }

        int tours() {
            return tourStarts.size();
        }

        void write(int op, int operand) {
            ops.add(op);
            operands.add(operand);
        }
    }

    /** Looks at the names and numbers of a text without error 1, and tells them to the text. */
    private static final class Naming {
        private final Tokens tokens;
        private final Row tape;
        // The token that is looked at, and its signs in the width of a name.
        private int at;
        private final Row signs = new Row(Text.NAME_WIDTH);

        Naming(Tokens tokens, Row tape) {
            this.tokens = tokens;
            this.tape = tape;
        }

        /** Returns the first error, 2 to 6, or 0. */
        int check(Text text) {
            for (at = 0; at < tokens.kinds.size(); at++) {
                int role = tokens.roles.get(at);
                spell(tokens.starts.get(at), tokens.lengths.get(at));
                int error = tokens.kinds.get(at) == Tokens.NUMBER ? checkNumber(text, role) : checkName(text, role);
                if (error != 0) {
                    return error;
                }
            }
            return 0;
        }

        private void spell(int start, int length) {
            signs.cut(0);
            for (int index = 0; index < Text.NAME_WIDTH; index++) {
                signs.add(index < length ? tape.get(start + index) : 0);
            }
        }

        int errorToken() {
            return at;
        }

        private int checkName(Text text, int role) {
            switch (role) {
                case Grammar.NEW_ROOM:
                    return tell(text.roomNames, Text.MOST_ROOMS);
                case Grammar.DOOR_FROM:
                    return checkDoorFrom(text);
                case Grammar.DOOR_TO:
                    return checkDoorTo(text);
                case Grammar.NEW_PART:
                    return tell(text.partNames, Text.MOST_PARTS);
                case Grammar.PART_ROOM:
                    return checkPartRoom(text);
                case Grammar.PART_NEED:
                    return checkNeed(text);
                case Grammar.NEW_TOUR:
                    text.tourStarts.add(tokens.places.get(at));
                    return tell(text.tourNames, Text.MOST_TOURS);
                case Grammar.USED_ROOM:
                    return use(text, find(text.roomNames, text.roomNames.size()));
                case Grammar.USED_PART:
                    return use(text, find(text.partNames, text.partNames.size()));
                case Grammar.USED_TOUR:
                    return use(text, find(text.tourNames, text.tourNames.size() - Text.NAME_WIDTH));
                default:
                    checkKind(text);
                    return 0;
            }
        }

        private int checkNumber(Text text, int role) {
            int number = tokens.numbers.get(at);
            switch (role) {
                case Grammar.DOOR_STEPS:
                    text.doorSteps.add(number);
                    return number >= 1 && number <= 200 ? 0 : 5;
                case Grammar.PART_LENGTH:
                    text.partLengths.add(number);
                    return number >= 1 && number <= 900 ? 0 : 5;
                case Grammar.PART_WORTH:
                    text.partWorths.set(text.parts() - 1, number);
                    return number <= 99 ? 0 : 5;
                case Grammar.REST_SECONDS:
                    return number >= 1 && number <= 900 ? use(text, number) : 5;
                case Grammar.REPEAT_TIMES:
                    return number <= 9 ? use(text, number) : 5;
                default:
                    return use(text, number);
            }
        }

        private int checkDoorFrom(Text text) {
            int room = find(text.roomNames, text.roomNames.size());
            if (room < 0) {
                return 3;
            }
            if (text.doors() >= Text.MOST_DOORS) {
                return 4;
            }
            text.doorFroms.add(room);
            return 0;
        }

        private int checkDoorTo(Text text) {
            int room = find(text.roomNames, text.roomNames.size());
            if (room < 0) {
                return 3;
            }
            text.doorTos.add(room);
            return room == text.doorFroms.get(text.doors()) ? 6 : 0;
        }

        private int checkPartRoom(Text text) {
            int room = find(text.roomNames, text.roomNames.size());
            if (room < 0) {
                return 3;
            }
            text.partRooms.add(room);
            text.partWorths.add(1);
            text.partKinds.add(0);
            text.partNeeds.add(0);
            return 0;
        }

        private int checkNeed(Text text) {
            int own = text.parts() - 1;
            int need = find(text.partNames, own * Text.NAME_WIDTH);
            if (need < 0) {
                return 3;
            }
            text.partNeeds.set(own, text.partNeeds.get(own) | 1 << need);
            return 0;
        }

        // all, child and expert stand nowhere but behind for.
        private void checkKind(Text text) {
            if (tokens.kinds.get(at) == Tokens.CHILD) {
                text.partKinds.set(text.parts() - 1, 1);
            } else if (tokens.kinds.get(at) == Tokens.EXPERT) {
                text.partKinds.set(text.parts() - 1, 2);
            }
        }

        private int tell(Row names, int most) {
            if (find(names, names.size()) >= 0) {
                return 2;
            }
            if (names.size() >= most * Text.NAME_WIDTH) {
                return 4;
            }
            for (int index = 0; index < Text.NAME_WIDTH; index++) {
                names.add(signs.get(index));
            }
            return 0;
        }

        /** Gives the instruction that waits at this token what the token means. */
        private int use(Text text, int meaning) {
            text.operands.set(tokens.places.get(at), meaning);
            return meaning < 0 ? 3 : 0;
        }

        /** Returns the number of this token's name among the names ahead of the end, or -1. */
        private int find(Row names, int end) {
            for (int start = 0; start < end; start += Text.NAME_WIDTH) {
                if (isName(names, start)) {
                    return start / Text.NAME_WIDTH;
                }
            }
            return -1;
        }

        private boolean isName(Row names, int start) {
            for (int index = 0; index < Text.NAME_WIDTH; index++) {
                if (names.get(start + index) != signs.get(index)) {
                    return false;
                }
            }
            return true;
        }
    }

    /** What is told now, when its rooms are closed, and which ways are shortest. */
    private static final class Plan {
        static final int MOST_CLOSINGS = 4;

        private final Row closedRooms = new Row(Text.MOST_ROOMS * MOST_CLOSINGS);
        private final Row closedFroms = new Row(Text.MOST_ROOMS * MOST_CLOSINGS);
        private final Row closedTos = new Row(Text.MOST_ROOMS * MOST_CLOSINGS);
        // Steps from room to room, -1 for no way: right for the open rooms at the last asking, and
        // the rooms of "measured" as first ones. Visits ask for the same ways again and again.
        private final Row distances = new Row(Text.MOST_ROOMS * Text.MOST_ROOMS);
        private int openThen;
        private int measured;
        private Text text = new Text();

        Plan() {
            distances.fill(-1);
        }

        Text text() {
            return text;
        }

        /** Takes a new text, with nothing closed, and gives the old one back. */
        Text furnish(Text told) {
            Text old = text;
            text = told;
            closedRooms.cut(0);
            closedFroms.cut(0);
            closedTos.cut(0);
            measured = 0;
            return old;
        }

        int closings(int room) {
            int closings = 0;
            for (int index = 0; index < closedRooms.size(); index++) {
                if (closedRooms.get(index) == room) {
                    closings++;
                }
            }
            return closings;
        }

        void shut(int room, int from, int to) {
            closedRooms.add(room);
            closedFroms.add(from);
            closedTos.add(to);
        }

        void unshut(int room) {
            int kept = 0;
            for (int index = 0; index < closedRooms.size(); index++) {
                if (closedRooms.get(index) != room) {
                    closedRooms.set(kept, closedRooms.get(index));
                    closedFroms.set(kept, closedFroms.get(index));
                    closedTos.set(kept, closedTos.get(index));
                    kept++;
                }
            }
            closedRooms.cut(kept);
            closedFroms.cut(kept);
            closedTos.cut(kept);
        }

        boolean opens(int room, int second) {
            return (openRooms(second) >> room & 1) != 0;
        }

        /** Returns the open rooms as the sum of the powers 2^room. */
        private int openRooms(int second) {
            int open = (1 << Text.MOST_ROOMS) - 1;
            for (int index = 0; index < closedRooms.size(); index++) {
                if (closedFroms.get(index) <= second && second < closedTos.get(index)) {
                    open &= ~(1 << closedRooms.get(index));
                }
            }
            return open;
        }

        /** Returns the steps of the shortest way, or -1. */
        int steps(int from, int to, int second) {
            if (from == to) {
                return 0;
            }
            int open = openRooms(second);
            if (open != openThen) {
                openThen = open;
                measured = 0;
            }
            if ((measured >> from & 1) == 0) {
                measure(from);
                measured |= 1 << from;
            }
            return distances.get(from * Text.MOST_ROOMS + to);
        }

        // A shortest way has fewer doors than there are rooms: after so many rounds all are found.
        private void measure(int from) {
            int row = from * Text.MOST_ROOMS;
            for (int room = 0; room < Text.MOST_ROOMS; room++) {
                distances.set(row + room, room == from ? 0 : -1);
            }
            boolean shortened = true;
            for (int round = 0; round < Text.MOST_ROOMS && shortened; round++) {
                shortened = false;
                for (int side = 0; side < 2 * text.doorSteps.size(); side++) {
                    int door = side / 2;
                    int here = side % 2 == 0 ? text.doorFroms.get(door) : text.doorTos.get(door);
                    int there = side % 2 == 0 ? text.doorTos.get(door) : text.doorFroms.get(door);
                    int before = distances.get(row + here);
                    int known = distances.get(row + there);
                    int steps = before + text.doorSteps.get(door);
                    if (before >= 0 && (openThen >> there & 1) != 0 && (known < 0 || steps < known)) {
                        distances.set(row + there, steps);
                        shortened = true;
                    }
                }
            }
        }
    }

    /** Where a visitor stands in a visit, and what walking and hearing make of it. */
    private static final class Stand {
        static final int FORCED_REST = 60;

        private int pace;
        private int stamina;
        private int kind;
        int second;
        int room;
        int tired;
        // The parts that were heard, as the sum of the powers 2^part.
        int heardParts;
        int worth;

        void isOf(int newPace, int newStamina, int newKind) {
            pace = newPace;
            stamina = newStamina;
            kind = newKind;
        }

        void put(int newSecond, int newRoom, int newTired, int newHeard, int newWorth) {
            second = newSecond;
            room = newRoom;
            tired = newTired;
            heardParts = newHeard;
            worth = newWorth;
        }

        int pace() {
            return pace;
        }

        boolean hasHeard(int part) {
            return (heardParts >> part & 1) != 0;
        }

        void walk(int steps, int to) {
            second += pace > 0 ? steps * 12 / pace : 0;
            tired += steps;
            room = to;
        }

        /** Has one rest if one is too tired, and tells whether one was. */
        boolean restsIfWorn() {
            if (tired <= stamina) {
                return false;
            }
            second += FORCED_REST;
            tired = stamina / 2;
            return true;
        }

        /** Tells whether one can hear the part here, if this room is open. */
        boolean canHear(Text text, int part) {
            int partKind = text.partKinds.get(part);
            return room == text.partRooms.get(part)
                && !hasHeard(part)
                && (partKind == 0 || partKind == kind)
                && (text.partNeeds.get(part) & ~heardParts) == 0;
        }

        void hear(Text text, int part) {
            second += text.partLengths.get(part);
            heardParts |= 1 << part;
            worth += text.partWorths.get(part);
        }
    }

    /** A visit: its stand, its events, and what is counted in it. */
    private static final class Visit {
        static final int EVENT_WIDTH = 3;
        private static final int MOST_SENTENCES = 300;
        private static final int CAME = 0;
        private static final int HEARD = 1;
        private static final int RESTED = 2;
        private static final int HAD_TO_REST = 3;
        private static final int MISSED = 4;

        final Stand stand = new Stand();
        // What happened, the second, and what it was with, of one event behind the other.
        final Row log;
        private final Plan plan;
        private boolean happened;
        private int end;
        private int steps;
        private int rests;
        private int misses;
        private int sentences;
        private boolean endedEarly;

        /** A visit of which no event is asked for needs no place for any. */
        Visit(Plan plan, int mostEvents) {
            this.plan = plan;
            log = new Row(mostEvents * EVENT_WIDTH);
        }

        /** Begins anew in the second in which its stand was put. */
        void begin(int time) {
            clear();
            happened = true;
            end = stand.second + time;
        }

        void forget() {
            clear();
            happened = false;
            stand.put(0, 0, 0, 0, 0);
        }

        private void clear() {
            log.cut(0);
            steps = 0;
            rests = 0;
            misses = 0;
            sentences = 0;
            endedEarly = false;
        }

        boolean happened() {
            return happened;
        }

        int events() {
            return log.size() / EVENT_WIDTH;
        }

        int left() {
            return end - stand.second;
        }

        int tell(int what) {
            switch (what) {
                case 0:
                    return stand.second;
                case 1:
                    return stand.room;
                case 2:
                    return Integer.bitCount(stand.heardParts);
                case 3:
                    return stand.worth;
                case 4:
                    return steps;
                case 5:
                    return rests;
                case 6:
                    return misses;
                case 7:
                    return endedEarly ? 1 : 0;
                case 8:
                    return stand.tired;
                default:
                    return sentences;
            }
        }

        /** Tells whether one more sentence is carried out; if not, the visit has ended early. */
        boolean goesOn() {
            endedEarly = stand.second >= end || sentences >= MOST_SENTENCES;
            if (!endedEarly) {
                sentences++;
            }
            return !endedEarly;
        }

        void go(int room) {
            if (room == stand.room) {
                return;
            }
            int way = plan.steps(stand.room, room, stand.second);
            if (way < 0) {
                miss(room);
                return;
            }
            stand.walk(way, room);
            steps += way;
            note(CAME, room);
            if (stand.restsIfWorn()) {
                rests++;
                note(HAD_TO_REST, Stand.FORCED_REST);
            }
        }

        void play(int part) {
            Text text = plan.text();
            if (!plan.opens(stand.room, stand.second) || !stand.canHear(text, part)) {
                miss(part);
                return;
            }
            stand.hear(text, part);
            note(HEARD, part);
        }

        void rest(int seconds) {
            stand.second += seconds;
            stand.tired = Math.max(0, stand.tired - seconds / 10);
            note(RESTED, seconds);
        }

        private void miss(int what) {
            misses++;
            note(MISSED, what);
        }

        private void note(int event, int what) {
            log.add(event);
            log.add(stand.second);
            log.add(what);
        }
    }

    /** Carries out the instructions of a tour: sentences, jumps, and sums on a stack of values. */
    private static final class Runner {
        static final int RETURN = 0;
        static final int STEP = 1;
        static final int GO = 2;
        static final int PLAY = 3;
        static final int REST = 4;
        static final int CALL = 5;
        static final int LOOP = 6;
        static final int AGAIN = 7;
        static final int JUMP = 8;
        static final int UNLESS = 9;
        private static final int FIRST_VALUE = 10;
        static final int NUMBER = 10;
        static final int TIME = 11;
        static final int LEFT = 12;
        static final int TIRED = 13;
        static final int PACE = 14;
        static final int WORTH = 15;
        static final int HEARD = 16;
        static final int OPEN = 17;
        static final int NEGATE = 18;
        static final int NOT = 19;
        private static final int FIRST_PAIR = 20;
        static final int ADD = 20;
        static final int SUBTRACT = 21;
        static final int MULTIPLY = 22;
        static final int DIVIDE = 23;
        static final int MIN = 24;
        static final int MAX = 25;
        private static final int FIRST_TEST = 26;
        static final int LESS = 26;
        static final int GREATER = 27;
        static final int EQUAL = 28;
        static final int AT_MOST = 29;
        static final int AT_LEAST = 30;
        static final int AND = 31;
        static final int OR = 32;

        // Far more than 300 sentences of a text of 400 tokens can take.
        private static final int MOST_TURNS = 1000000;
        // A text of depth 8 holds fewer values at once, and fewer loops in each tour.
        private static final int MOST_VALUES = 80;
        private static final int MOST_LOOPS = 8 * Text.MOST_TOURS;

        private final Plan plan;
        private final Row values = new Row(MOST_VALUES);
        // How often the loops round this place go on.
        private final Row loops = new Row(MOST_LOOPS);
        private final Row returns = new Row(Text.MOST_TOURS);
        private int place;
        private boolean running;

        Runner(Plan plan) {
            this.plan = plan;
        }

        /** Returns the worth of what was heard. */
        int run(Visit visit, int tour) {
            Text text = plan.text();
            values.cut(0);
            loops.cut(0);
            returns.cut(0);
            place = text.tourStarts.get(tour);
            running = true;
            for (int turn = 0; turn < MOST_TURNS && running; turn++) {
                int op = text.ops.get(place);
                int operand = text.operands.get(place);
                place++;
                if (op >= FIRST_TEST) {
                    compare(op);
                } else if (op >= FIRST_PAIR) {
                    reckon(op);
                } else if (op >= FIRST_VALUE) {
                    values.add(value(visit, op, operand));
                } else {
                    carryOut(visit, op, operand);
                }
            }
            return visit.stand.worth;
        }

        private void carryOut(Visit visit, int op, int operand) {
            switch (op) {
                case STEP:
                    running = visit.goesOn();
                    break;
                case GO:
                    visit.go(operand);
                    break;
                case PLAY:
                    visit.play(operand);
                    break;
                case REST:
                    visit.rest(operand);
                    break;
                case CALL:
                    returns.add(place);
                    place = plan.text().tourStarts.get(operand);
                    break;
                case LOOP:
                    loops.add(operand);
                    break;
                case AGAIN:
                    loopOrLeave(operand);
                    break;
                case JUMP:
                    place = operand;
                    break;
                case UNLESS:
                    place = values.pop() == 0 ? operand : place;
                    break;
                default:
                    running = returns.size() > 0;
                    place = returns.pop();
            }
        }

        private void loopOrLeave(int behind) {
            int times = loops.pop();
            if (times > 0) {
                loops.add(times - 1);
            } else {
                place = behind;
            }
        }

        private int value(Visit visit, int op, int operand) {
            switch (op) {
                case TIME:
                    return visit.stand.second;
                case LEFT:
                    return visit.left();
                case TIRED:
                    return visit.stand.tired;
                case PACE:
                    return visit.stand.pace();
                case WORTH:
                    return visit.stand.worth;
                case HEARD:
                    return visit.stand.hasHeard(operand) ? 1 : 0;
                case OPEN:
                    return plan.opens(operand, visit.stand.second) ? 1 : 0;
                case NEGATE:
                    return -values.pop();
                case NOT:
                    return 1 - values.pop();
                default:
                    return operand;
            }
        }

        private void reckon(int op) {
            int right = values.pop();
            int left = values.pop();
            switch (op) {
                case ADD:
                    values.add(left + right);
                    break;
                case SUBTRACT:
                    values.add(left - right);
                    break;
                case MULTIPLY:
                    values.add(left * right);
                    break;
                case DIVIDE:
                    values.add(right == 0 ? 0 : left / right);
                    break;
                case MIN:
                    values.add(Math.min(left, right));
                    break;
                default:
                    values.add(Math.max(left, right));
            }
        }

        private void compare(int op) {
            int right = values.pop();
            int left = values.pop();
            values.add(holds(op, left, right) ? 1 : 0);
        }

        private static boolean holds(int op, int left, int right) {
            switch (op) {
                case LESS:
                    return left < right;
                case GREATER:
                    return left > right;
                case EQUAL:
                    return left == right;
                case AT_MOST:
                    return left <= right;
                case AT_LEAST:
                    return left >= right;
                case AND:
                    return left != 0 && right != 0;
                default:
                    return left != 0 || right != 0;
            }
        }
    }

    /** Composes tours, from where its stand is put, and keeps the paper. */
    private static final class Composer {
        static final int MOST_SEARCHED = 6;
        private static final String HEAD = "tour made {\n";
        private static final String LINE_GO = " go ";
        private static final String LINE_PLAY = "; play ";
        private static final String LINE_END = ";\n";
        private static final String FOOT = "}\n";
        // The head and the foot take 14, and a line at most 33.
        private static final int MOST_PAPER = 14 + Text.MOST_PARTS * 33;

        final Stand stand = new Stand();
        final Row paper = new Row(MOST_PAPER);
        private final Plan plan;
        private int end;

        Composer(Plan plan) {
            this.plan = plan;
        }

        /** Writes the tour on the paper, and returns its worth. */
        int write(int newEnd) {
            end = newEnd;
            paper.cut(0);
            writeSigns(HEAD);
            int parts = plan.text().parts();
            int part = choose();
            for (int taken = 0; taken < parts && part >= 0; taken++) {
                take(part);
                writeLine(part);
                part = choose();
            }
            writeSigns(FOOT);
            return stand.worth;
        }

        /** Returns the part to take next, or -1; the stand is as before. */
        private int choose() {
            int second = stand.second;
            int room = stand.room;
            int tired = stand.tired;
            int heard = stand.heardParts;
            int worth = stand.worth;
            int chosen = -1;
            int most = -1;
            for (int part = 0; part < plan.text().parts(); part++) {
                int rate = take(part) && stand.second > second
                    ? plan.text().partWorths.get(part) * 1000 / (stand.second - second)
                    : -1;
                stand.put(second, room, tired, heard, worth);
                if (rate > most) {
                    most = rate;
                    chosen = part;
                }
            }
            return chosen;
        }

        /** Returns the greatest worth of all orders. */
        int greatest(int newEnd) {
            end = newEnd;
            return search(0);
        }

        private int search(int depth) {
            int second = stand.second;
            int room = stand.room;
            int tired = stand.tired;
            int heard = stand.heardParts;
            int worth = stand.worth;
            int most = worth;
            if (depth >= MOST_SEARCHED) {
                return most;
            }
            for (int part = 0; part < plan.text().parts(); part++) {
                if (take(part)) {
                    most = Math.max(most, search(depth + 1));
                }
                stand.put(second, room, tired, heard, worth);
            }
            return most;
        }

        /** Goes to the part and hears it; where it tells that one can't, the stand is of no use. */
        private boolean take(int part) {
            Text text = plan.text();
            int room = text.partRooms.get(part);
            if (room != stand.room) {
                int steps = plan.steps(stand.room, room, stand.second);
                if (steps < 0) {
                    return false;
                }
                stand.walk(steps, room);
                stand.restsIfWorn();
            }
            if (!plan.opens(room, stand.second) || !stand.canHear(text, part)) {
                return false;
            }
            stand.hear(text, part);
            return stand.second <= end;
        }

        private void writeLine(int part) {
            Text text = plan.text();
            writeSigns(LINE_GO);
            writeName(text.roomNames, text.partRooms.get(part));
            writeSigns(LINE_PLAY);
            writeName(text.partNames, part);
            writeSigns(LINE_END);
        }

        private void writeSigns(String signs) {
            for (int index = 0; index < signs.length(); index++) {
                paper.add(signs.charAt(index));
            }
        }

        private void writeName(Row names, int number) {
            for (int index = 0; index < Text.NAME_WIDTH; index++) {
                int sign = names.get(number * Text.NAME_WIDTH + index);
                if (sign != 0) {
                    paper.add(sign);
                }
            }
        }
    }
}
